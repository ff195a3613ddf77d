set_option maxHeartbeats 8000000 in
set_option maxRecDepth 100000 in
theorem law_16 {p : Program} {l : Launch} {e : Env} {s : State} {m : MethodId} {below : List Frame} {meth : Method} {c : Code} {b L : Nat} {xs : Nat → Int32} (C0 : lw_At p s m meth c b L xs) (hL : L ≤ 4096) {A : Nat → Prop} (hAe : (fun q : Nat => s.heap.size ≤ q) = A) {E : tE} {X : tX} (hk : h_Kr X s) (hX : h_S X A s s.heap) {i : Int32} (hi0 : 0 ≤ i.toInt) (hi8 : i.toInt + 8 ≤ L) {cp mo : Nat} {cells slots : Nat} (hcl : cells ≤ 500000) (hsl : slots ≤ 7000000) {z : tZ} {I0 : tI} {L0 : tL} {H : Heap} {locs : List Loc} {ls : Array Slot} (T : h_T E A s z I0 L0 H locs cp mo) (hl : lv_has ls 4 [(3, .int i), (2, .ref mo), (1, .ref cp), (0, .ref b)]) (kk : ∀ (z : tZ) (I0 : tI) (L0 : tL) (H : Heap) (locs : List Loc) (ls : Array Slot), h_T E A s z I0 L0 H locs cp mo → lv_has ls 4 [(3, .int i), (2, .ref mo), (1, .ref cp), (0, .ref b)] → W p l e room_1 s m #[Value.ref b] below meth c H locs (cells + 3) (slots + 17) (lw_Z below #[Value.ref b] s) (F0 m 1241 ls [])) : W p l e room_1 s m #[Value.ref b] below meth c H locs cells slots (lw_Z below #[Value.ref b] s) (F0 m 826 ls []) := by
  obtain ⟨hx, hb, hr, hml, hown, hts0, hSc, hbl, hlocks, hgv⟩ := id C0
  have hE := xs_E hts0
  have hts : ∀ w ∈ wsL_law, w.before #[Value.ref b] s = true := fun w h => hts0 w (wsL_law_in w h)
  have hA : ∀ q : Nat, s.heap.size ≤ q → A q := fun q h => by rw [← hAe]; exact h
  have hbA : ¬ A b := by rw [← hAe]; exact Nat.not_le.mpr hbl
  obtain ⟨g, hI, hR, tcp, tmo, J1, J2, hU, R_al, R_tp, R_ck, R_fa, R_bk, R_dr, R_tb, R_gb⟩ := T
  unfold h_J2 at J2
  obtain ⟨lw, rlw, tlw⟩ := hR.at mo 10 tmo (rfl : h_rs 13 10 = some (1310, false)) (by decide)
  have alw : h_ad z mo 10 = lw := h_ad.at rlw
  obtain ⟨tb, rtb, ttb⟩ := hR.at mo 32 tmo (rfl : h_rs 13 32 = some (1332, false)) (by decide)
  have atb : h_ad z mo 32 = tb := h_ad.at rtb
  obtain ⟨rd, rrd, trd⟩ := hR.at cp 2 tcp (rfl : h_rs 12 2 = some (5, false)) (by decide)
  have ard : h_ad z cp 2 = rd := h_ad.at rrd
  obtain ⟨tp, rtp, ttp⟩ := hR.at cp 0 tcp (rfl : h_rs 12 0 = some (9, false)) (by decide)
  have atp : h_ad z cp 0 = tp := h_ad.at rtp
  obtain ⟨bk, rbk, tbk⟩ := hR.at cp 3 tcp (rfl : h_rs 12 3 = some (1, false)) (by decide)
  have abk : h_ad z cp 3 = bk := h_ad.at rbk
  obtain ⟨lb, rlb, tlb⟩ := hR.at cp 1 tcp (rfl : h_rs 12 1 = some (4, false)) (by decide)
  have alb : h_ad z cp 1 = lb := h_ad.at rlb
  obtain ⟨bg, rbg, tbg⟩ := hR.at cp 5 tcp (rfl : h_rs 12 5 = some (10, false)) (by decide)
  have abg : h_ad z cp 5 = bg := h_ad.at rbg
  obtain ⟨tu, rtu, ttu⟩ := hR.at cp 4 tcp (rfl : h_rs 12 4 = some (11, false)) (by decide)
  have atu : h_ad z cp 4 = tu := h_ad.at rtu
  obtain ⟨rg, rrg, trg⟩ := hR.at cp 6 tcp (rfl : h_rs 12 6 = some (8, false)) (by decide)
  have arg : h_ad z cp 6 = rg := h_ad.at rrg
  obtain ⟨bt, rbt, tbt⟩ := hR.at tp 0 ttp (rfl : h_rs 9 0 = some (900, false)) (by decide)
  have abt : h_ad z tp 0 = bt := h_ad.at rbt
  obtain ⟨mb, rmb, tmb⟩ := hR.at mo 0 tmo (rfl : h_rs 13 0 = some (1300, false)) (by decide)
  have amb : h_ad z mo 0 = mb := h_ad.at rmb
  obtain ⟨tx, rtx, ttx⟩ := hR.at lb 1 tlb (rfl : h_rs 4 1 = some (401, false)) (by decide)
  have atx : h_ad z lb 1 = tx := h_ad.at rtx
  obtain ⟨un, run, tun⟩ := hR.at lb 0 tlb (rfl : h_rs 4 0 = some (6, false)) (by decide)
  have aun : h_ad z lb 0 = un := h_ad.at run
  obtain ⟨hy, rhy, thy⟩ := hR.at mo 11 tmo (rfl : h_rs 13 11 = some (1311, false)) (by decide)
  have ahy : h_ad z mo 11 = hy := h_ad.at rhy
  obtain ⟨dt, rdt, tdt⟩ := hR.at cp 7 tcp (rfl : h_rs 12 7 = some (3, false)) (by decide)
  have adt : h_ad z cp 7 = dt := h_ad.at rdt
  obtain ⟨dr, rdr, tdr⟩ := hR.at dt 2 tdt (rfl : h_rs 3 2 = some (302, false)) (by decide)
  have adr : h_ad z dt 2 = dr := h_ad.at rdr
  obtain ⟨rl, rrl, trl⟩ := hR.at rd 1 trd (rfl : h_rs 5 1 = some (6, false)) (by decide)
  have arl : h_ad z rd 1 = rl := h_ad.at rrl
  obtain ⟨rn, rrn, trn⟩ := hR.at rl 0 trl (rfl : h_rs 6 0 = some (600, false)) (by decide)
  have arn : h_ad z rl 0 = rn := h_ad.at rrn
  obtain ⟨ro, rro, tro⟩ := hR.at rl 1 trl (rfl : h_rs 6 1 = some (601, false)) (by decide)
  have aro : h_ad z rl 1 = ro := h_ad.at rro
  obtain ⟨rk, rrk, trk⟩ := hR.at dt 0 tdt (rfl : h_rs 3 0 = some (300, false)) (by decide)
  have ark : h_ad z dt 0 = rk := h_ad.at rrk
  rw [alw] at J1
  rw [atb] at J2
  rw [ard, atp, abk, alb, abg, atu, arg] at R_al
  rw [atp, abt, amb] at R_tp
  rw [abk] at R_ck
  rw [ard] at R_fa
  rw [alb, atx, aun, alw, ahy] at R_bk
  rw [adt, adr] at R_dr
  rw [adt] at R_tb
  refine lv_aload_n hx hb dL_law_826 rfl (lv_at hl 2 rfl) ?_
  have y0 := hI.rd mo 12 tmo rfl (rfl : h_bd 13 12 = (0, 9))
  obtain ⟨u_, hok, hr, hcl⟩ := R_bk.get (I0 mo 12).toInt y0.1 y0.2
  have hr2 : h_r12 (I0 (h_ad z mo 11)) (I0 (h_ad z mo 10)) (I0 mo 12).toInt u_ := by rw [ahy, alw]; exact hr
  have hob := R_gb.ob hr2
  have hcl2 : ∀ b : Nat, h_of (z.R (h_ad z (h_ad z (h_ad z cp 3) 0) 1)) (h_ad z (h_ad z (h_ad z cp 3) 0) 0) (I0 (h_ad z cp 3) 3).toInt b → h_lw I0 b (h_ad z b 0) (h_ad z b 1) u_ := by rw [abk, h_ad.at R_al.2.1, aun, atx, R_ck]; exact hcl
  have hal : h_ad z (h_ad z cp 5) 0 = h_ad z cp 3 := by rw [abg, h_ad.at R_al.2.2.1, abk]
  have hal1 : h_ad z (h_ad z cp 5) 1 = h_ad z cp 4 := by rw [abg, h_ad.at R_al.2.2.2.1, atu]
  have hIo := hI
  refine va_calli (va_runV (As := []) (rest := []) ⟨hx, hb, hml, hown, hts⟩ (tX11_checkB l E X A z I0 L0 cp tcp u_ (R_gb.tp hI tmo hal hcl2 hob) R_gb.cb) (cwV 0 hts gL_law_X11_check rfl rfl rfl (by decide +kernel) ⟨Nat.le_of_ble_eq_true rfl, Nat.le_of_ble_eq_true rfl⟩) ⟨h_blind _ _ _ _ _ _ _, h_recv g tcp (by decide) so_12 (q := (RX11, TX11, 8)) rfl, h_pre _ hE hk hX hA hI hR g⟩ rfl rfl hl.1 rfl (lv_room (Nat.le_of_ble_eq_true rfl)) dL_law_827 ⟨show cells + 0 ≤ 600000 by omega, show slots + 0 ≤ 7302250 by omega⟩) g.2.1 (fun q _ h => h) (fun q h => h) (fun rh1 I2 t H1 locs ht hvm h1 hB hz1 hk1 hS => ?_)
  obtain ⟨hI, fh1, h1⟩ := h1
  replace J1 : h_J1 (I2 lw) := by rw [show I2 lw = I0 lw from funext (fun k => fh1.at tlw rfl)]; exact J1
  rw [← fh1.at tmo rfl, show I0 tb = I2 tb from funext (fun k => (fh1.at ttb rfl).symm)] at J2
  have oR_al := R_al
  have oR_tp := R_tp
  have oR_ck := R_ck
  have oR_fa := R_fa
  have oR_bk := R_bk
  have oR_dr := R_dr
  have oR_tb := R_tb
  have oR_gb := R_gb
  skip
  replace R_tp : I2 tp 1 = I2 mo 1 ∧ I2 bt = I2 mb := by rw [show I2 tp 1 = I0 tp 1 from fh1.at ttp rfl, show I2 mo 1 = I0 mo 1 from fh1.at tmo rfl, show I2 bt = I0 bt from funext (fun k => fh1.at tbt rfl), show I2 mb = I0 mb from funext (fun k => fh1.at tmb rfl)]; exact R_tp
  replace R_ck : I2 bk 3 = I2 mo 12 := by rw [show I2 bk 3 = I0 bk 3 from fh1.at tbk rfl, show I2 mo 12 = I0 mo 12 from fh1.at tmo rfl]; exact R_ck
  replace R_fa : I2 rd 2 = I2 mo 8 ∧ I2 rd 3 = I2 mo 9 := by rw [show I2 rd 2 = I0 rd 2 from fh1.at trd rfl, show I2 rd 3 = I0 rd 3 from fh1.at trd rfl, show I2 mo 8 = I0 mo 8 from fh1.at tmo rfl, show I2 mo 9 = I0 mo 9 from fh1.at tmo rfl]; exact R_fa
  replace R_bk : h_bk z I2 tx un lw hy := R_bk.F hR ttx tun tlw thy fh1 (fun _ => rfl) (fun _ => rfl) (fun _ => rfl) (fun _ => rfl) (fun _ => rfl)
  replace R_dr : (I2 dr (I2 mo 12).toInt.toNat).toInt = (I2 mo 31).toInt ∧ ∀ k : Nat, (I2 mo 12).toInt < (k : Int) → I2 dr k = 0 := by rw [show I2 dr = I0 dr from funext (fun k => fh1.at tdr rfl), show I2 mo 12 = I0 mo 12 from fh1.at tmo rfl, show I2 mo 31 = I0 mo 31 from fh1.at tmo rfl]; exact R_dr
  replace R_tb : I2 dt 1 = I2 mo 30 := by rw [show I2 dt 1 = I0 dt 1 from fh1.at tdt rfl, show I2 mo 30 = I0 mo 30 from fh1.at tmo rfl]; exact R_tb
  have gck : I0 (h_ad z cp 3) 3 = I0 mo 12 := by rw [abk]; exact oR_ck
  have gI := hIo
  have gP := h1
  have gF := fh1
  have ger : h_er z I0 I2 := fun a h9 => fh1.ref (by decide) rfl h9
  replace hr2 := ger.r12 hR tmo hr2
  replace g := h_after g hB ht hS
  generalize H1 = H at g
  clear hB hk1 hz1 ht hvm hS
  refine lv_pop hx hb dL_law_830 rfl ?_
  refine lv_aload_n hx hb dL_law_831 rfl (lv_at hl 1 rfl) ?_
  refine vp_callSi (W.runV (As := []) (rest := []) ⟨hx, hb, hml, hown, hts⟩ (tX12_checkB l E X A z I2 L0 mo tmo u_ hr2 hob (R_gb.p3 hR gI tcp tmo ger _) (R_gb.ft hR gI tcp tmo ger) (R_gb.ne hR gI tcp tmo ger) (R_gb.mm hR gI tcp tmo ger)) (cwV 0 hts gL_law_X12_check rfl rfl rfl (by decide +kernel) ⟨Nat.le_of_ble_eq_true rfl, Nat.le_of_ble_eq_true rfl⟩) ⟨h_blind _ _ _ _ _ _ _, h_recv g tmo (by decide) so_13 (q := (RX12, TX12, 51)) rfl, h_pre _ hE hk hX hA hI hR g⟩ rfl rfl hl.1 rfl (lv_room (Nat.le_of_ble_eq_true rfl)) dL_law_832 ⟨show cells + 0 ≤ 600000 by omega, show slots + 0 ≤ 7302250 by omega⟩) (fun rh3 h3 => ?_)
  obtain ⟨same, Rn⟩ := g_check2 R_gb hU hR gI tcp tmo gck hal hal1 gP gF h3
  replace R_gb := Rn
  refine lv_pop hx hb dL_law_835 rfl ?_
  refine lv_goto (tgt := 1241) hx hb dL_law_836 (by decide) ?_
  exact W.widen (by omega) (by omega) (kk z I2 L0 _ _ _ ⟨g, hI, hR, tcp, tmo, by rw [alw]; exact J1, by unfold h_J2; rw [atb]; exact J2, hU, by rw [ard, atp, abk, alb, abg, atu, arg]; exact R_al, by rw [atp, abt, amb]; exact R_tp, by rw [abk]; exact R_ck, by rw [ard]; exact R_fa, by rw [alb, atx, aun, alw, ahy]; exact R_bk, by rw [adt, adr]; exact R_dr, by rw [adt]; exact R_tb, by exact R_gb⟩ hl)
set_option maxHeartbeats 8000000 in
set_option maxRecDepth 100000 in
theorem law_17 {p : Program} {l : Launch} {e : Env} {s : State} {m : MethodId} {below : List Frame} {meth : Method} {c : Code} {b L : Nat} {xs : Nat → Int32} (C0 : lw_At p s m meth c b L xs) (hL : L ≤ 4096) {A : Nat → Prop} (hAe : (fun q : Nat => s.heap.size ≤ q) = A) {E : tE} {X : tX} (hk : h_Kr X s) (hX : h_S X A s s.heap) {i : Int32} (hi0 : 0 ≤ i.toInt) (hi8 : i.toInt + 8 ≤ L) {cp mo : Nat} {cells slots : Nat} (hcl : cells ≤ 500000) (hsl : slots ≤ 7000000) {z : tZ} {I0 : tI} {L0 : tL} {H : Heap} {locs : List Loc} {ls : Array Slot} (T : h_T E A s z I0 L0 H locs cp mo) (hl : lv_has ls 4 [(3, .int i), (2, .ref mo), (1, .ref cp), (0, .ref b)]) (kk : ∀ (z : tZ) (I0 : tI) (L0 : tL) (H : Heap) (locs : List Loc) (ls : Array Slot), h_T E A s z I0 L0 H locs cp mo → lv_has ls 4 [(3, .int i), (2, .ref mo), (1, .ref cp), (0, .ref b)] → W p l e room_1 s m #[Value.ref b] below meth c H locs (cells + 3) (slots + 17) (lw_Z below #[Value.ref b] s) (F0 m 1241 ls [])) : W p l e room_1 s m #[Value.ref b] below meth c H locs cells slots (lw_Z below #[Value.ref b] s) (F0 m 839 ls []) := by
  obtain ⟨hx, hb, hr, hml, hown, hts0, hSc, hbl, hlocks, hgv⟩ := id C0
  have hE := xs_E hts0
  have hts : ∀ w ∈ wsL_law, w.before #[Value.ref b] s = true := fun w h => hts0 w (wsL_law_in w h)
  have hA : ∀ q : Nat, s.heap.size ≤ q → A q := fun q h => by rw [← hAe]; exact h
  have hbA : ¬ A b := by rw [← hAe]; exact Nat.not_le.mpr hbl
  obtain ⟨g, hI, hR, tcp, tmo, J1, J2, hU, R_al, R_tp, R_ck, R_fa, R_bk, R_dr, R_tb, R_gb⟩ := T
  unfold h_J2 at J2
  obtain ⟨lw, rlw, tlw⟩ := hR.at mo 10 tmo (rfl : h_rs 13 10 = some (1310, false)) (by decide)
  have alw : h_ad z mo 10 = lw := h_ad.at rlw
  obtain ⟨tb, rtb, ttb⟩ := hR.at mo 32 tmo (rfl : h_rs 13 32 = some (1332, false)) (by decide)
  have atb : h_ad z mo 32 = tb := h_ad.at rtb
  obtain ⟨rd, rrd, trd⟩ := hR.at cp 2 tcp (rfl : h_rs 12 2 = some (5, false)) (by decide)
  have ard : h_ad z cp 2 = rd := h_ad.at rrd
  obtain ⟨tp, rtp, ttp⟩ := hR.at cp 0 tcp (rfl : h_rs 12 0 = some (9, false)) (by decide)
  have atp : h_ad z cp 0 = tp := h_ad.at rtp
  obtain ⟨bk, rbk, tbk⟩ := hR.at cp 3 tcp (rfl : h_rs 12 3 = some (1, false)) (by decide)
  have abk : h_ad z cp 3 = bk := h_ad.at rbk
  obtain ⟨lb, rlb, tlb⟩ := hR.at cp 1 tcp (rfl : h_rs 12 1 = some (4, false)) (by decide)
  have alb : h_ad z cp 1 = lb := h_ad.at rlb
  obtain ⟨bg, rbg, tbg⟩ := hR.at cp 5 tcp (rfl : h_rs 12 5 = some (10, false)) (by decide)
  have abg : h_ad z cp 5 = bg := h_ad.at rbg
  obtain ⟨tu, rtu, ttu⟩ := hR.at cp 4 tcp (rfl : h_rs 12 4 = some (11, false)) (by decide)
  have atu : h_ad z cp 4 = tu := h_ad.at rtu
  obtain ⟨rg, rrg, trg⟩ := hR.at cp 6 tcp (rfl : h_rs 12 6 = some (8, false)) (by decide)
  have arg : h_ad z cp 6 = rg := h_ad.at rrg
  obtain ⟨bt, rbt, tbt⟩ := hR.at tp 0 ttp (rfl : h_rs 9 0 = some (900, false)) (by decide)
  have abt : h_ad z tp 0 = bt := h_ad.at rbt
  obtain ⟨mb, rmb, tmb⟩ := hR.at mo 0 tmo (rfl : h_rs 13 0 = some (1300, false)) (by decide)
  have amb : h_ad z mo 0 = mb := h_ad.at rmb
  obtain ⟨tx, rtx, ttx⟩ := hR.at lb 1 tlb (rfl : h_rs 4 1 = some (401, false)) (by decide)
  have atx : h_ad z lb 1 = tx := h_ad.at rtx
  obtain ⟨un, run, tun⟩ := hR.at lb 0 tlb (rfl : h_rs 4 0 = some (6, false)) (by decide)
  have aun : h_ad z lb 0 = un := h_ad.at run
  obtain ⟨hy, rhy, thy⟩ := hR.at mo 11 tmo (rfl : h_rs 13 11 = some (1311, false)) (by decide)
  have ahy : h_ad z mo 11 = hy := h_ad.at rhy
  obtain ⟨dt, rdt, tdt⟩ := hR.at cp 7 tcp (rfl : h_rs 12 7 = some (3, false)) (by decide)
  have adt : h_ad z cp 7 = dt := h_ad.at rdt
  obtain ⟨dr, rdr, tdr⟩ := hR.at dt 2 tdt (rfl : h_rs 3 2 = some (302, false)) (by decide)
  have adr : h_ad z dt 2 = dr := h_ad.at rdr
  obtain ⟨rl, rrl, trl⟩ := hR.at rd 1 trd (rfl : h_rs 5 1 = some (6, false)) (by decide)
  have arl : h_ad z rd 1 = rl := h_ad.at rrl
  obtain ⟨rn, rrn, trn⟩ := hR.at rl 0 trl (rfl : h_rs 6 0 = some (600, false)) (by decide)
  have arn : h_ad z rl 0 = rn := h_ad.at rrn
  obtain ⟨ro, rro, tro⟩ := hR.at rl 1 trl (rfl : h_rs 6 1 = some (601, false)) (by decide)
  have aro : h_ad z rl 1 = ro := h_ad.at rro
  obtain ⟨rk, rrk, trk⟩ := hR.at dt 0 tdt (rfl : h_rs 3 0 = some (300, false)) (by decide)
  have ark : h_ad z dt 0 = rk := h_ad.at rrk
  rw [alw] at J1
  rw [atb] at J2
  rw [ard, atp, abk, alb, abg, atu, arg] at R_al
  rw [atp, abt, amb] at R_tp
  rw [abk] at R_ck
  rw [ard] at R_fa
  rw [alb, atx, aun, alw, ahy] at R_bk
  rw [adt, adr] at R_dr
  rw [adt] at R_tb
  refine lv_aload_n hx hb dL_law_839 rfl (lv_at hl 2 rfl) ?_
  refine lv_aload_n hx hb dL_law_840 rfl (lv_at hl 3 rfl) ?_
  refine lv_iload_n hx hb dL_law_841 rfl (lv_at hl 0 rfl) ?_
  refine lv_iconst (v := 1) hx hb dL_law_842 (by decide) ?_
  refine lv_iadd hx hb dL_law_843 ?_
  refine lv_topi (fun v1 ev1 => ?_)
  refine va_sld hx hb hSc hbl hbA g.2.1 (h_ix hi0 hi8 hL ev1 (k := 1) (by decide) (by decide) (by decide)) dL_law_844 ?_
  refine lv_topi (fun v2 ev2 => ?_)
  have hal : h_ad z (h_ad z cp 5) 0 = h_ad z cp 3 := by rw [abg, h_ad.at R_al.2.2.1, abk]
  have hal1 : h_ad z (h_ad z cp 5) 1 = h_ad z cp 4 := by rw [abg, h_ad.at R_al.2.2.2.1, atu]
  refine vp_callSi (W.runV (As := [.int v2]) (rest := []) ⟨hx, hb, hml, hown, hts⟩ (tX11_gainB l E X A z I0 L0 cp tcp v2 (v2.toInt) rfl (R_gb.mq hal) (R_gb.nq hal)) (cwV 1 hts gL_law_X11_gain rfl rfl rfl (by decide +kernel) ⟨Nat.le_of_ble_eq_true rfl, Nat.le_of_ble_eq_true rfl⟩) ⟨h_blind _ _ _ _ _ _ _, h_recv g tcp (by decide) so_12 (q := (RX11, TX11, 8)) rfl, h_pre _ hE hk hX hA hI hR g⟩ rfl rfl hl.1 rfl (lv_room (Nat.le_of_ble_eq_true rfl)) dL_law_845 ⟨show cells + 0 ≤ 600000 by omega, show slots + 0 ≤ 7302250 by omega⟩) (fun rh3 h3 => ?_)
  have gck : I0 (h_ad z cp 3) 3 = I0 mo 12 := by rw [abk]; exact R_ck
  have gI := hI
  have gP := h3
  have ger : h_er z I0 I0 := h_er.rf
  refine lv_pop hx hb dL_law_848 rfl ?_
  refine lv_aload_n hx hb dL_law_849 rfl (lv_at hl 1 rfl) ?_
  refine lv_aload_n hx hb dL_law_850 rfl (lv_at hl 3 rfl) ?_
  refine lv_iload_n hx hb dL_law_851 rfl (lv_at hl 0 rfl) ?_
  refine lv_iconst (v := 1) hx hb dL_law_852 (by decide) ?_
  refine lv_iadd hx hb dL_law_853 ?_
  refine lv_topi (fun v4 ev4 => ?_)
  refine va_sld hx hb hSc hbl hbA g.2.1 (h_ix hi0 hi8 hL ev4 (k := 1) (by decide) (by decide) (by decide)) dL_law_854 ?_
  refine xw_i (v := v2) (by rw [show v4 = v1 from ev4.trans ev1.symm]; exact ev2.symm) ?_
  refine vp_callSi (W.runV (As := [.int v2]) (rest := []) ⟨hx, hb, hml, hown, hts⟩ (tX12_gainB l E X A z I0 L0 mo tmo v2 (v2.toInt) rfl (R_gb.ne hR gI tcp tmo ger)) (cwV 1 hts gL_law_X12_gain rfl rfl rfl (by decide +kernel) ⟨Nat.le_of_ble_eq_true rfl, Nat.le_of_ble_eq_true rfl⟩) ⟨h_blind _ _ _ _ _ _ _, h_recv g tmo (by decide) so_13 (q := (RX12, TX12, 51)) rfl, h_pre _ hE hk hX hA hI hR g⟩ rfl rfl hl.1 rfl (lv_room (Nat.le_of_ble_eq_true rfl)) dL_law_855 ⟨show cells + 0 ≤ 600000 by omega, show slots + 0 ≤ 7302250 by omega⟩) (fun rh6 h6 => ?_)
  have same := g_gain2 R_gb hU hR gI tcp tmo gck hal hal1 gP h6
  refine lv_pop hx hb dL_law_858 rfl ?_
  refine lv_goto (tgt := 1241) hx hb dL_law_859 (by decide) ?_
  exact W.widen (by omega) (by omega) (kk z I0 L0 _ _ _ ⟨g, hI, hR, tcp, tmo, by rw [alw]; exact J1, by unfold h_J2; rw [atb]; exact J2, hU, by rw [ard, atp, abk, alb, abg, atu, arg]; exact R_al, by rw [atp, abt, amb]; exact R_tp, by rw [abk]; exact R_ck, by rw [ard]; exact R_fa, by rw [alb, atx, aun, alw, ahy]; exact R_bk, by rw [adt, adr]; exact R_dr, by rw [adt]; exact R_tb, by exact R_gb⟩ hl)
set_option maxHeartbeats 8000000 in
set_option maxRecDepth 100000 in
theorem law_18 {p : Program} {l : Launch} {e : Env} {s : State} {m : MethodId} {below : List Frame} {meth : Method} {c : Code} {b L : Nat} {xs : Nat → Int32} (C0 : lw_At p s m meth c b L xs) (hL : L ≤ 4096) {A : Nat → Prop} (hAe : (fun q : Nat => s.heap.size ≤ q) = A) {E : tE} {X : tX} (hk : h_Kr X s) (hX : h_S X A s s.heap) {i : Int32} (hi0 : 0 ≤ i.toInt) (hi8 : i.toInt + 8 ≤ L) {cp mo : Nat} {cells slots : Nat} (hcl : cells ≤ 500000) (hsl : slots ≤ 7000000) {z : tZ} {I0 : tI} {L0 : tL} {H : Heap} {locs : List Loc} {ls : Array Slot} (T : h_T E A s z I0 L0 H locs cp mo) (hl : lv_has ls 4 [(3, .int i), (2, .ref mo), (1, .ref cp), (0, .ref b)]) (kk : ∀ (z : tZ) (I0 : tI) (L0 : tL) (H : Heap) (locs : List Loc) (ls : Array Slot), h_T E A s z I0 L0 H locs cp mo → lv_has ls 4 [(3, .int i), (2, .ref mo), (1, .ref cp), (0, .ref b)] → W p l e room_1 s m #[Value.ref b] below meth c H locs (cells + 3) (slots + 17) (lw_Z below #[Value.ref b] s) (F0 m 1241 ls [])) : W p l e room_1 s m #[Value.ref b] below meth c H locs cells slots (lw_Z below #[Value.ref b] s) (F0 m 862 ls []) := by
  obtain ⟨hx, hb, hr, hml, hown, hts0, hSc, hbl, hlocks, hgv⟩ := id C0
  have hE := xs_E hts0
  have hts : ∀ w ∈ wsL_law, w.before #[Value.ref b] s = true := fun w h => hts0 w (wsL_law_in w h)
  have hA : ∀ q : Nat, s.heap.size ≤ q → A q := fun q h => by rw [← hAe]; exact h
  have hbA : ¬ A b := by rw [← hAe]; exact Nat.not_le.mpr hbl
  obtain ⟨g, hI, hR, tcp, tmo, J1, J2, hU, R_al, R_tp, R_ck, R_fa, R_bk, R_dr, R_tb, R_gb⟩ := T
  unfold h_J2 at J2
  obtain ⟨lw, rlw, tlw⟩ := hR.at mo 10 tmo (rfl : h_rs 13 10 = some (1310, false)) (by decide)
  have alw : h_ad z mo 10 = lw := h_ad.at rlw
  obtain ⟨tb, rtb, ttb⟩ := hR.at mo 32 tmo (rfl : h_rs 13 32 = some (1332, false)) (by decide)
  have atb : h_ad z mo 32 = tb := h_ad.at rtb
  obtain ⟨rd, rrd, trd⟩ := hR.at cp 2 tcp (rfl : h_rs 12 2 = some (5, false)) (by decide)
  have ard : h_ad z cp 2 = rd := h_ad.at rrd
  obtain ⟨tp, rtp, ttp⟩ := hR.at cp 0 tcp (rfl : h_rs 12 0 = some (9, false)) (by decide)
  have atp : h_ad z cp 0 = tp := h_ad.at rtp
  obtain ⟨bk, rbk, tbk⟩ := hR.at cp 3 tcp (rfl : h_rs 12 3 = some (1, false)) (by decide)
  have abk : h_ad z cp 3 = bk := h_ad.at rbk
  obtain ⟨lb, rlb, tlb⟩ := hR.at cp 1 tcp (rfl : h_rs 12 1 = some (4, false)) (by decide)
  have alb : h_ad z cp 1 = lb := h_ad.at rlb
  obtain ⟨bg, rbg, tbg⟩ := hR.at cp 5 tcp (rfl : h_rs 12 5 = some (10, false)) (by decide)
  have abg : h_ad z cp 5 = bg := h_ad.at rbg
  obtain ⟨tu, rtu, ttu⟩ := hR.at cp 4 tcp (rfl : h_rs 12 4 = some (11, false)) (by decide)
  have atu : h_ad z cp 4 = tu := h_ad.at rtu
  obtain ⟨rg, rrg, trg⟩ := hR.at cp 6 tcp (rfl : h_rs 12 6 = some (8, false)) (by decide)
  have arg : h_ad z cp 6 = rg := h_ad.at rrg
  obtain ⟨bt, rbt, tbt⟩ := hR.at tp 0 ttp (rfl : h_rs 9 0 = some (900, false)) (by decide)
  have abt : h_ad z tp 0 = bt := h_ad.at rbt
  obtain ⟨mb, rmb, tmb⟩ := hR.at mo 0 tmo (rfl : h_rs 13 0 = some (1300, false)) (by decide)
  have amb : h_ad z mo 0 = mb := h_ad.at rmb
  obtain ⟨tx, rtx, ttx⟩ := hR.at lb 1 tlb (rfl : h_rs 4 1 = some (401, false)) (by decide)
  have atx : h_ad z lb 1 = tx := h_ad.at rtx
  obtain ⟨un, run, tun⟩ := hR.at lb 0 tlb (rfl : h_rs 4 0 = some (6, false)) (by decide)
  have aun : h_ad z lb 0 = un := h_ad.at run
  obtain ⟨hy, rhy, thy⟩ := hR.at mo 11 tmo (rfl : h_rs 13 11 = some (1311, false)) (by decide)
  have ahy : h_ad z mo 11 = hy := h_ad.at rhy
  obtain ⟨dt, rdt, tdt⟩ := hR.at cp 7 tcp (rfl : h_rs 12 7 = some (3, false)) (by decide)
  have adt : h_ad z cp 7 = dt := h_ad.at rdt
  obtain ⟨dr, rdr, tdr⟩ := hR.at dt 2 tdt (rfl : h_rs 3 2 = some (302, false)) (by decide)
  have adr : h_ad z dt 2 = dr := h_ad.at rdr
  obtain ⟨rl, rrl, trl⟩ := hR.at rd 1 trd (rfl : h_rs 5 1 = some (6, false)) (by decide)
  have arl : h_ad z rd 1 = rl := h_ad.at rrl
  obtain ⟨rn, rrn, trn⟩ := hR.at rl 0 trl (rfl : h_rs 6 0 = some (600, false)) (by decide)
  have arn : h_ad z rl 0 = rn := h_ad.at rrn
  obtain ⟨ro, rro, tro⟩ := hR.at rl 1 trl (rfl : h_rs 6 1 = some (601, false)) (by decide)
  have aro : h_ad z rl 1 = ro := h_ad.at rro
  obtain ⟨rk, rrk, trk⟩ := hR.at dt 0 tdt (rfl : h_rs 3 0 = some (300, false)) (by decide)
  have ark : h_ad z dt 0 = rk := h_ad.at rrk
  rw [alw] at J1
  rw [atb] at J2
  rw [ard, atp, abk, alb, abg, atu, arg] at R_al
  rw [atp, abt, amb] at R_tp
  rw [abk] at R_ck
  rw [ard] at R_fa
  rw [alb, atx, aun, alw, ahy] at R_bk
  rw [adt, adr] at R_dr
  rw [adt] at R_tb
  refine lv_aload_n hx hb dL_law_862 rfl (lv_at hl 2 rfl) ?_
  have y0 := hI.rd mo 12 tmo rfl (rfl : h_bd 13 12 = (0, 9))
  obtain ⟨u_, hok, hr, hcl⟩ := R_bk.get (I0 mo 12).toInt y0.1 y0.2
  have hr2 : h_r12 (I0 (h_ad z mo 11)) (I0 (h_ad z mo 10)) (I0 mo 12).toInt u_ := by rw [ahy, alw]; exact hr
  have hob := R_gb.ob hr2
  have hcl2 : ∀ b : Nat, h_of (z.R (h_ad z (h_ad z (h_ad z cp 3) 0) 1)) (h_ad z (h_ad z (h_ad z cp 3) 0) 0) (I0 (h_ad z cp 3) 3).toInt b → h_lw I0 b (h_ad z b 0) (h_ad z b 1) u_ := by rw [abk, h_ad.at R_al.2.1, aun, atx, R_ck]; exact hcl
  have hal : h_ad z (h_ad z cp 5) 0 = h_ad z cp 3 := by rw [abg, h_ad.at R_al.2.2.1, abk]
  have hal1 : h_ad z (h_ad z cp 5) 1 = h_ad z cp 4 := by rw [abg, h_ad.at R_al.2.2.2.1, atu]
  have hIo := hI
  refine va_calli (va_runV (As := []) (rest := []) ⟨hx, hb, hml, hown, hts⟩ (tX11_dealB l E X A z I0 L0 cp tcp u_ (R_gb.tp hI tmo hal hcl2 hob) R_gb.cb (R_gb.mq hal) (R_gb.nq hal) (g_dq hU hR tcp hal)) (cwV 0 hts gL_law_X11_deal rfl rfl rfl (by decide +kernel) ⟨Nat.le_of_ble_eq_true rfl, Nat.le_of_ble_eq_true rfl⟩) ⟨h_blind _ _ _ _ _ _ _, h_recv g tcp (by decide) so_12 (q := (RX11, TX11, 8)) rfl, h_pre _ hE hk hX hA hI hR g⟩ rfl rfl hl.1 rfl (lv_room (Nat.le_of_ble_eq_true rfl)) dL_law_863 ⟨show cells + 0 ≤ 600000 by omega, show slots + 0 ≤ 7302250 by omega⟩) g.2.1 (fun q _ h => h) (fun q h => h) (fun rh1 I2 t H1 locs ht hvm h1 hB hz1 hk1 hS => ?_)
  obtain ⟨hI, fh1, h1⟩ := h1
  replace J1 : h_J1 (I2 lw) := by rw [show I2 lw = I0 lw from funext (fun k => fh1.at tlw rfl)]; exact J1
  rw [← fh1.at tmo rfl, show I0 tb = I2 tb from funext (fun k => (fh1.at ttb rfl).symm)] at J2
  have oR_al := R_al
  have oR_tp := R_tp
  have oR_ck := R_ck
  have oR_fa := R_fa
  have oR_bk := R_bk
  have oR_dr := R_dr
  have oR_tb := R_tb
  have oR_gb := R_gb
  skip
  replace R_tp : I2 tp 1 = I2 mo 1 ∧ I2 bt = I2 mb := by rw [show I2 tp 1 = I0 tp 1 from fh1.at ttp rfl, show I2 mo 1 = I0 mo 1 from fh1.at tmo rfl, show I2 bt = I0 bt from funext (fun k => fh1.at tbt rfl), show I2 mb = I0 mb from funext (fun k => fh1.at tmb rfl)]; exact R_tp
  replace R_ck : I2 bk 3 = I2 mo 12 := by rw [show I2 bk 3 = I0 bk 3 from fh1.at tbk rfl, show I2 mo 12 = I0 mo 12 from fh1.at tmo rfl]; exact R_ck
  replace R_fa : I2 rd 2 = I2 mo 8 ∧ I2 rd 3 = I2 mo 9 := by rw [show I2 rd 2 = I0 rd 2 from fh1.at trd rfl, show I2 rd 3 = I0 rd 3 from fh1.at trd rfl, show I2 mo 8 = I0 mo 8 from fh1.at tmo rfl, show I2 mo 9 = I0 mo 9 from fh1.at tmo rfl]; exact R_fa
  replace R_bk : h_bk z I2 tx un lw hy := R_bk.F hR ttx tun tlw thy fh1 (fun _ => rfl) (fun _ => rfl) (fun _ => rfl) (fun _ => rfl) (fun _ => rfl)
  replace R_dr : (I2 dr (I2 mo 12).toInt.toNat).toInt = (I2 mo 31).toInt ∧ ∀ k : Nat, (I2 mo 12).toInt < (k : Int) → I2 dr k = 0 := by rw [show I2 dr = I0 dr from funext (fun k => fh1.at tdr rfl), show I2 mo 12 = I0 mo 12 from fh1.at tmo rfl, show I2 mo 31 = I0 mo 31 from fh1.at tmo rfl]; exact R_dr
  replace R_tb : I2 dt 1 = I2 mo 30 := by rw [show I2 dt 1 = I0 dt 1 from fh1.at tdt rfl, show I2 mo 30 = I0 mo 30 from fh1.at tmo rfl]; exact R_tb
  have gck : I0 (h_ad z cp 3) 3 = I0 mo 12 := by rw [abk]; exact oR_ck
  have gI := hIo
  have gP := h1
  have gF := fh1
  have ger : h_er z I0 I2 := fun a h9 => fh1.ref (by decide) rfl h9
  replace hr2 := ger.r12 hR tmo hr2
  replace g := h_after g hB ht hS
  generalize H1 = H at g
  clear hB hk1 hz1 ht hvm hS
  refine lv_pop hx hb dL_law_866 rfl ?_
  refine lv_aload_n hx hb dL_law_867 rfl (lv_at hl 1 rfl) ?_
  have hIo := hI
  refine va_calli (va_runV (As := []) (rest := []) ⟨hx, hb, hml, hown, hts⟩ (tX12_dealB l E X A z I2 L0 mo tmo u_ hr2 hob (R_gb.p3 hR gI tcp tmo ger _) (R_gb.ft hR gI tcp tmo ger) (R_gb.ne hR gI tcp tmo ger) (R_gb.mm hR gI tcp tmo ger)) (cwV 0 hts gL_law_X12_deal rfl rfl rfl (by decide +kernel) ⟨Nat.le_of_ble_eq_true rfl, Nat.le_of_ble_eq_true rfl⟩) ⟨h_blind _ _ _ _ _ _ _, h_recv g tmo (by decide) so_13 (q := (RX12, TX12, 51)) rfl, h_pre _ hE hk hX hA hI hR g⟩ rfl rfl hl.1 rfl (lv_room (Nat.le_of_ble_eq_true rfl)) dL_law_868 ⟨show cells + 0 ≤ 600000 by omega, show slots + 0 ≤ 7302250 by omega⟩) g.2.1 (fun q _ h => h) (fun q h => h) (fun rh3 I4 t H1 locs ht hvm h3 hB hz1 hk1 hS => ?_)
  obtain ⟨hI, fh3, h3⟩ := h3
  replace J1 : h_J1 (I4 lw) := by rw [show I4 lw = I2 lw from funext (fun k => fh3.at tlw rfl)]; exact J1
  rw [← fh3.at tmo rfl, show I2 tb = I4 tb from funext (fun k => (fh3.at ttb rfl).symm)] at J2
  have oR_al := R_al
  have oR_tp := R_tp
  have oR_ck := R_ck
  have oR_fa := R_fa
  have oR_bk := R_bk
  have oR_dr := R_dr
  have oR_tb := R_tb
  have oR_gb := R_gb
  skip
  replace R_tp : I4 tp 1 = I4 mo 1 ∧ I4 bt = I4 mb := by rw [show I4 tp 1 = I2 tp 1 from fh3.at ttp rfl, show I4 mo 1 = I2 mo 1 from fh3.at tmo rfl, show I4 bt = I2 bt from funext (fun k => fh3.at tbt rfl), show I4 mb = I2 mb from funext (fun k => fh3.at tmb rfl)]; exact R_tp
  replace R_ck : I4 bk 3 = I4 mo 12 := by rw [show I4 bk 3 = I2 bk 3 from fh3.at tbk rfl, show I4 mo 12 = I2 mo 12 from fh3.at tmo rfl]; exact R_ck
  replace R_fa : I4 rd 2 = I4 mo 8 ∧ I4 rd 3 = I4 mo 9 := by rw [show I4 rd 2 = I2 rd 2 from fh3.at trd rfl, show I4 rd 3 = I2 rd 3 from fh3.at trd rfl, show I4 mo 8 = I2 mo 8 from fh3.at tmo rfl, show I4 mo 9 = I2 mo 9 from fh3.at tmo rfl]; exact R_fa
  replace R_bk : h_bk z I4 tx un lw hy := R_bk.F hR ttx tun tlw thy fh3 (fun _ => rfl) (fun _ => rfl) (fun _ => rfl) (fun _ => rfl) (fun _ => rfl)
  replace R_dr : (I4 dr (I4 mo 12).toInt.toNat).toInt = (I4 mo 31).toInt ∧ ∀ k : Nat, (I4 mo 12).toInt < (k : Int) → I4 dr k = 0 := by rw [show I4 dr = I2 dr from funext (fun k => fh3.at tdr rfl), show I4 mo 12 = I2 mo 12 from fh3.at tmo rfl, show I4 mo 31 = I2 mo 31 from fh3.at tmo rfl]; exact R_dr
  replace R_tb : I4 dt 1 = I4 mo 30 := by rw [show I4 dt 1 = I2 dt 1 from fh3.at tdt rfl, show I4 mo 30 = I2 mo 30 from fh3.at tmo rfl]; exact R_tb
  obtain ⟨same, Rn⟩ := g_deal2 R_gb hU hR gI tcp tmo gck hal hal1 gP gF h3 fh3
  replace R_gb := Rn
  replace g := h_after g hB ht hS
  generalize H1 = H at g
  clear hB hk1 hz1 ht hvm hS
  refine lv_pop hx hb dL_law_871 rfl ?_
  refine lv_goto (tgt := 1241) hx hb dL_law_872 (by decide) ?_
  exact W.widen (by omega) (by omega) (kk z I4 L0 _ _ _ ⟨g, hI, hR, tcp, tmo, by rw [alw]; exact J1, by unfold h_J2; rw [atb]; exact J2, hU, by rw [ard, atp, abk, alb, abg, atu, arg]; exact R_al, by rw [atp, abt, amb]; exact R_tp, by rw [abk]; exact R_ck, by rw [ard]; exact R_fa, by rw [alb, atx, aun, alw, ahy]; exact R_bk, by rw [adt, adr]; exact R_dr, by rw [adt]; exact R_tb, by exact R_gb⟩ hl)
set_option maxHeartbeats 8000000 in
set_option maxRecDepth 100000 in
theorem law_19 {p : Program} {l : Launch} {e : Env} {s : State} {m : MethodId} {below : List Frame} {meth : Method} {c : Code} {b L : Nat} {xs : Nat → Int32} (C0 : lw_At p s m meth c b L xs) (hL : L ≤ 4096) {A : Nat → Prop} (hAe : (fun q : Nat => s.heap.size ≤ q) = A) {E : tE} {X : tX} (hk : h_Kr X s) (hX : h_S X A s s.heap) {i : Int32} (hi0 : 0 ≤ i.toInt) (hi8 : i.toInt + 8 ≤ L) {cp mo : Nat} {cells slots : Nat} (hcl : cells ≤ 500000) (hsl : slots ≤ 7000000) {z : tZ} {I0 : tI} {L0 : tL} {H : Heap} {locs : List Loc} {ls : Array Slot} (T : h_T E A s z I0 L0 H locs cp mo) (hl : lv_has ls 4 [(3, .int i), (2, .ref mo), (1, .ref cp), (0, .ref b)]) (kk : ∀ (z : tZ) (I0 : tI) (L0 : tL) (H : Heap) (locs : List Loc) (ls : Array Slot), h_T E A s z I0 L0 H locs cp mo → lv_has ls 4 [(3, .int i), (2, .ref mo), (1, .ref cp), (0, .ref b)] → W p l e room_1 s m #[Value.ref b] below meth c H locs (cells + 3) (slots + 17) (lw_Z below #[Value.ref b] s) (F0 m 1241 ls [])) : W p l e room_1 s m #[Value.ref b] below meth c H locs cells slots (lw_Z below #[Value.ref b] s) (F0 m 875 ls []) := by
  obtain ⟨hx, hb, hr, hml, hown, hts0, hSc, hbl, hlocks, hgv⟩ := id C0
  have hE := xs_E hts0
  have hts : ∀ w ∈ wsL_law, w.before #[Value.ref b] s = true := fun w h => hts0 w (wsL_law_in w h)
  have hA : ∀ q : Nat, s.heap.size ≤ q → A q := fun q h => by rw [← hAe]; exact h
  have hbA : ¬ A b := by rw [← hAe]; exact Nat.not_le.mpr hbl
  obtain ⟨g, hI, hR, tcp, tmo, J1, J2, hU, R_al, R_tp, R_ck, R_fa, R_bk, R_dr, R_tb, R_gb⟩ := T
  unfold h_J2 at J2
  obtain ⟨lw, rlw, tlw⟩ := hR.at mo 10 tmo (rfl : h_rs 13 10 = some (1310, false)) (by decide)
  have alw : h_ad z mo 10 = lw := h_ad.at rlw
  obtain ⟨tb, rtb, ttb⟩ := hR.at mo 32 tmo (rfl : h_rs 13 32 = some (1332, false)) (by decide)
  have atb : h_ad z mo 32 = tb := h_ad.at rtb
  obtain ⟨rd, rrd, trd⟩ := hR.at cp 2 tcp (rfl : h_rs 12 2 = some (5, false)) (by decide)
  have ard : h_ad z cp 2 = rd := h_ad.at rrd
  obtain ⟨tp, rtp, ttp⟩ := hR.at cp 0 tcp (rfl : h_rs 12 0 = some (9, false)) (by decide)
  have atp : h_ad z cp 0 = tp := h_ad.at rtp
  obtain ⟨bk, rbk, tbk⟩ := hR.at cp 3 tcp (rfl : h_rs 12 3 = some (1, false)) (by decide)
  have abk : h_ad z cp 3 = bk := h_ad.at rbk
  obtain ⟨lb, rlb, tlb⟩ := hR.at cp 1 tcp (rfl : h_rs 12 1 = some (4, false)) (by decide)
  have alb : h_ad z cp 1 = lb := h_ad.at rlb
  obtain ⟨bg, rbg, tbg⟩ := hR.at cp 5 tcp (rfl : h_rs 12 5 = some (10, false)) (by decide)
  have abg : h_ad z cp 5 = bg := h_ad.at rbg
  obtain ⟨tu, rtu, ttu⟩ := hR.at cp 4 tcp (rfl : h_rs 12 4 = some (11, false)) (by decide)
  have atu : h_ad z cp 4 = tu := h_ad.at rtu
  obtain ⟨rg, rrg, trg⟩ := hR.at cp 6 tcp (rfl : h_rs 12 6 = some (8, false)) (by decide)
  have arg : h_ad z cp 6 = rg := h_ad.at rrg
  obtain ⟨bt, rbt, tbt⟩ := hR.at tp 0 ttp (rfl : h_rs 9 0 = some (900, false)) (by decide)
  have abt : h_ad z tp 0 = bt := h_ad.at rbt
  obtain ⟨mb, rmb, tmb⟩ := hR.at mo 0 tmo (rfl : h_rs 13 0 = some (1300, false)) (by decide)
  have amb : h_ad z mo 0 = mb := h_ad.at rmb
  obtain ⟨tx, rtx, ttx⟩ := hR.at lb 1 tlb (rfl : h_rs 4 1 = some (401, false)) (by decide)
  have atx : h_ad z lb 1 = tx := h_ad.at rtx
  obtain ⟨un, run, tun⟩ := hR.at lb 0 tlb (rfl : h_rs 4 0 = some (6, false)) (by decide)
  have aun : h_ad z lb 0 = un := h_ad.at run
  obtain ⟨hy, rhy, thy⟩ := hR.at mo 11 tmo (rfl : h_rs 13 11 = some (1311, false)) (by decide)
  have ahy : h_ad z mo 11 = hy := h_ad.at rhy
  obtain ⟨dt, rdt, tdt⟩ := hR.at cp 7 tcp (rfl : h_rs 12 7 = some (3, false)) (by decide)
  have adt : h_ad z cp 7 = dt := h_ad.at rdt
  obtain ⟨dr, rdr, tdr⟩ := hR.at dt 2 tdt (rfl : h_rs 3 2 = some (302, false)) (by decide)
  have adr : h_ad z dt 2 = dr := h_ad.at rdr
  obtain ⟨rl, rrl, trl⟩ := hR.at rd 1 trd (rfl : h_rs 5 1 = some (6, false)) (by decide)
  have arl : h_ad z rd 1 = rl := h_ad.at rrl
  obtain ⟨rn, rrn, trn⟩ := hR.at rl 0 trl (rfl : h_rs 6 0 = some (600, false)) (by decide)
  have arn : h_ad z rl 0 = rn := h_ad.at rrn
  obtain ⟨ro, rro, tro⟩ := hR.at rl 1 trl (rfl : h_rs 6 1 = some (601, false)) (by decide)
  have aro : h_ad z rl 1 = ro := h_ad.at rro
  obtain ⟨rk, rrk, trk⟩ := hR.at dt 0 tdt (rfl : h_rs 3 0 = some (300, false)) (by decide)
  have ark : h_ad z dt 0 = rk := h_ad.at rrk
  rw [alw] at J1
  rw [atb] at J2
  rw [ard, atp, abk, alb, abg, atu, arg] at R_al
  rw [atp, abt, amb] at R_tp
  rw [abk] at R_ck
  rw [ard] at R_fa
  rw [alb, atx, aun, alw, ahy] at R_bk
  rw [adt, adr] at R_dr
  rw [adt] at R_tb
  refine lv_aload_n hx hb dL_law_875 rfl (lv_at hl 2 rfl) ?_
  refine lv_aload_n hx hb dL_law_876 rfl (lv_at hl 3 rfl) ?_
  refine lv_iload_n hx hb dL_law_877 rfl (lv_at hl 0 rfl) ?_
  refine lv_iconst (v := 1) hx hb dL_law_878 (by decide) ?_
  refine lv_iadd hx hb dL_law_879 ?_
  refine lv_topi (fun v1 ev1 => ?_)
  refine va_sld hx hb hSc hbl hbA g.2.1 (h_ix hi0 hi8 hL ev1 (k := 1) (by decide) (by decide) (by decide)) dL_law_880 ?_
  refine lv_topi (fun v2 ev2 => ?_)
  refine lv_aload_n hx hb dL_law_881 rfl (lv_at hl 3 rfl) ?_
  refine lv_iload_n hx hb dL_law_882 rfl (lv_at hl 0 rfl) ?_
  refine lv_iconst (v := 2) hx hb dL_law_883 (by decide) ?_
  refine lv_iadd hx hb dL_law_884 ?_
  refine lv_topi (fun v3 ev3 => ?_)
  refine va_sld hx hb hSc hbl hbA g.2.1 (h_ix hi0 hi8 hL ev3 (k := 2) (by decide) (by decide) (by decide)) dL_law_885 ?_
  refine lv_topi (fun v4 ev4 => ?_)
  refine lv_aload_n hx hb dL_law_886 rfl (lv_at hl 3 rfl) ?_
  refine lv_iload_n hx hb dL_law_887 rfl (lv_at hl 0 rfl) ?_
  refine lv_iconst (v := 3) hx hb dL_law_888 (by decide) ?_
  refine lv_iadd hx hb dL_law_889 ?_
  refine lv_topi (fun v5 ev5 => ?_)
  refine va_sld hx hb hSc hbl hbA g.2.1 (h_ix hi0 hi8 hL ev5 (k := 3) (by decide) (by decide) (by decide)) dL_law_890 ?_
  refine lv_topi (fun v6 ev6 => ?_)
  have hIo := hI
  refine va_calli (va_runV (As := [.int v2, .int v4, .int v6]) (rest := []) ⟨hx, hb, hml, hown, hts⟩ (tX11_worthF l E X A z I0 L0 cp tcp v2 (v2.toInt) rfl v4 (v4.toInt) rfl v6 (v6.toInt) rfl) (cwV 3 hts gL_law_X11_worth rfl rfl rfl (by decide +kernel) ⟨Nat.le_of_ble_eq_true rfl, Nat.le_of_ble_eq_true rfl⟩) ⟨h_blind _ _ _ _ _ _ _, h_recv g tcp (by decide) so_12 (q := (RX11, TX11, 8)) rfl, h_pre _ hE hk hX hA hI hR g⟩ rfl rfl hl.1 rfl (lv_room (Nat.le_of_ble_eq_true rfl)) dL_law_891 ⟨show cells + 0 ≤ 600000 by omega, show slots + 0 ≤ 7302250 by omega⟩) g.2.1 (fun q _ h => h) (fun q h => h) (fun rh7 I8 t H1 locs ht hvm h7 hB hz1 hk1 hS => ?_)
  obtain ⟨hI, fh7, h7⟩ := h7
  replace J1 : h_J1 (I8 lw) := by rw [show I8 lw = I0 lw from funext (fun k => fh7.at tlw rfl)]; exact J1
  rw [← fh7.at tmo rfl, show I0 tb = I8 tb from funext (fun k => (fh7.at ttb rfl).symm)] at J2
  have oR_al := R_al
  have oR_tp := R_tp
  have oR_ck := R_ck
  have oR_fa := R_fa
  have oR_bk := R_bk
  have oR_dr := R_dr
  have oR_tb := R_tb
  have oR_gb := R_gb
  skip
  replace R_tp : I8 tp 1 = I8 mo 1 ∧ I8 bt = I8 mb := by rw [show I8 tp 1 = I0 tp 1 from fh7.at ttp rfl, show I8 mo 1 = I0 mo 1 from fh7.at tmo rfl, show I8 bt = I0 bt from funext (fun k => fh7.at tbt rfl), show I8 mb = I0 mb from funext (fun k => fh7.at tmb rfl)]; exact R_tp
  replace R_ck : I8 bk 3 = I8 mo 12 := by rw [show I8 bk 3 = I0 bk 3 from fh7.at tbk rfl, show I8 mo 12 = I0 mo 12 from fh7.at tmo rfl]; exact R_ck
  replace R_fa : I8 rd 2 = I8 mo 8 ∧ I8 rd 3 = I8 mo 9 := by rw [show I8 rd 2 = I0 rd 2 from fh7.at trd rfl, show I8 rd 3 = I0 rd 3 from fh7.at trd rfl, show I8 mo 8 = I0 mo 8 from fh7.at tmo rfl, show I8 mo 9 = I0 mo 9 from fh7.at tmo rfl]; exact R_fa
  replace R_bk : h_bk z I8 tx un lw hy := R_bk.F hR ttx tun tlw thy fh7 (fun _ => rfl) (fun _ => rfl) (fun _ => rfl) (fun _ => rfl) (fun _ => rfl)
  replace R_dr : (I8 dr (I8 mo 12).toInt.toNat).toInt = (I8 mo 31).toInt ∧ ∀ k : Nat, (I8 mo 12).toInt < (k : Int) → I8 dr k = 0 := by rw [show I8 dr = I0 dr from funext (fun k => fh7.at tdr rfl), show I8 mo 12 = I0 mo 12 from fh7.at tmo rfl, show I8 mo 31 = I0 mo 31 from fh7.at tmo rfl]; exact R_dr
  replace R_tb : I8 dt 1 = I8 mo 30 := by rw [show I8 dt 1 = I0 dt 1 from fh7.at tdt rfl, show I8 mo 30 = I0 mo 30 from fh7.at tmo rfl]; exact R_tb
  have gck : I0 (h_ad z cp 3) 3 = I0 mo 12 := by rw [abk]; exact oR_ck
  have gI := hIo
  have gP := h7
  have gF := fh7
  have ger : h_er z I0 I8 := fun a h9 => fh7.ref (by decide) rfl h9
  replace g := h_after g hB ht hS
  generalize H1 = H at g
  clear hB hk1 hz1 ht hvm hS
  refine lv_pop hx hb dL_law_894 rfl ?_
  refine lv_aload_n hx hb dL_law_895 rfl (lv_at hl 1 rfl) ?_
  refine lv_aload_n hx hb dL_law_896 rfl (lv_at hl 3 rfl) ?_
  refine lv_iload_n hx hb dL_law_897 rfl (lv_at hl 0 rfl) ?_
  refine lv_iconst (v := 1) hx hb dL_law_898 (by decide) ?_
  refine lv_iadd hx hb dL_law_899 ?_
  refine lv_topi (fun v9 ev9 => ?_)
  refine va_sld hx hb hSc hbl hbA g.2.1 (h_ix hi0 hi8 hL ev9 (k := 1) (by decide) (by decide) (by decide)) dL_law_900 ?_
  refine xw_i (v := v2) (by rw [show v9 = v1 from ev9.trans ev1.symm]; exact ev2.symm) ?_
  refine lv_aload_n hx hb dL_law_901 rfl (lv_at hl 3 rfl) ?_
  refine lv_iload_n hx hb dL_law_902 rfl (lv_at hl 0 rfl) ?_
  refine lv_iconst (v := 2) hx hb dL_law_903 (by decide) ?_
  refine lv_iadd hx hb dL_law_904 ?_
  refine lv_topi (fun v11 ev11 => ?_)
  refine va_sld hx hb hSc hbl hbA g.2.1 (h_ix hi0 hi8 hL ev11 (k := 2) (by decide) (by decide) (by decide)) dL_law_905 ?_
  refine xw_i (v := v4) (by rw [show v11 = v3 from ev11.trans ev3.symm]; exact ev4.symm) ?_
  refine lv_aload_n hx hb dL_law_906 rfl (lv_at hl 3 rfl) ?_
  refine lv_iload_n hx hb dL_law_907 rfl (lv_at hl 0 rfl) ?_
  refine lv_iconst (v := 3) hx hb dL_law_908 (by decide) ?_
  refine lv_iadd hx hb dL_law_909 ?_
  refine lv_topi (fun v13 ev13 => ?_)
  refine va_sld hx hb hSc hbl hbA g.2.1 (h_ix hi0 hi8 hL ev13 (k := 3) (by decide) (by decide) (by decide)) dL_law_910 ?_
  refine xw_i (v := v6) (by rw [show v13 = v5 from ev13.trans ev5.symm]; exact ev6.symm) ?_
  have hIo := hI
  refine va_calli (va_runV (As := [.int v2, .int v4, .int v6]) (rest := []) ⟨hx, hb, hml, hown, hts⟩ (tX12_worthF l E X A z I8 L0 mo tmo v2 (v2.toInt) rfl v4 (v4.toInt) rfl v6 (v6.toInt) rfl) (cwV 3 hts gL_law_X12_worth rfl rfl rfl (by decide +kernel) ⟨Nat.le_of_ble_eq_true rfl, Nat.le_of_ble_eq_true rfl⟩) ⟨h_blind _ _ _ _ _ _ _, h_recv g tmo (by decide) so_13 (q := (RX12, TX12, 51)) rfl, h_pre _ hE hk hX hA hI hR g⟩ rfl rfl hl.1 rfl (lv_room (Nat.le_of_ble_eq_true rfl)) dL_law_911 ⟨show cells + 0 ≤ 600000 by omega, show slots + 0 ≤ 7302250 by omega⟩) g.2.1 (fun q _ h => h) (fun q h => h) (fun rh15 I16 t H1 locs ht hvm h15 hB hz1 hk1 hS => ?_)
  obtain ⟨hI, fh15, h15⟩ := h15
  replace J1 : h_J1 (I16 lw) := by rw [show I16 lw = I8 lw from funext (fun k => fh15.at tlw rfl)]; exact J1
  rw [← fh15.at tmo rfl, show I8 tb = I16 tb from funext (fun k => (fh15.at ttb rfl).symm)] at J2
  have oR_al := R_al
  have oR_tp := R_tp
  have oR_ck := R_ck
  have oR_fa := R_fa
  have oR_bk := R_bk
  have oR_dr := R_dr
  have oR_tb := R_tb
  have oR_gb := R_gb
  skip
  replace R_tp : I16 tp 1 = I16 mo 1 ∧ I16 bt = I16 mb := by rw [show I16 tp 1 = I8 tp 1 from fh15.at ttp rfl, show I16 mo 1 = I8 mo 1 from fh15.at tmo rfl, show I16 bt = I8 bt from funext (fun k => fh15.at tbt rfl), show I16 mb = I8 mb from funext (fun k => fh15.at tmb rfl)]; exact R_tp
  replace R_ck : I16 bk 3 = I16 mo 12 := by rw [show I16 bk 3 = I8 bk 3 from fh15.at tbk rfl, show I16 mo 12 = I8 mo 12 from fh15.at tmo rfl]; exact R_ck
  replace R_fa : I16 rd 2 = I16 mo 8 ∧ I16 rd 3 = I16 mo 9 := by rw [show I16 rd 2 = I8 rd 2 from fh15.at trd rfl, show I16 rd 3 = I8 rd 3 from fh15.at trd rfl, show I16 mo 8 = I8 mo 8 from fh15.at tmo rfl, show I16 mo 9 = I8 mo 9 from fh15.at tmo rfl]; exact R_fa
  replace R_bk : h_bk z I16 tx un lw hy := R_bk.F hR ttx tun tlw thy fh15 (fun _ => rfl) (fun _ => rfl) (fun _ => rfl) (fun _ => rfl) (fun _ => rfl)
  replace R_dr : (I16 dr (I16 mo 12).toInt.toNat).toInt = (I16 mo 31).toInt ∧ ∀ k : Nat, (I16 mo 12).toInt < (k : Int) → I16 dr k = 0 := by rw [show I16 dr = I8 dr from funext (fun k => fh15.at tdr rfl), show I16 mo 12 = I8 mo 12 from fh15.at tmo rfl, show I16 mo 31 = I8 mo 31 from fh15.at tmo rfl]; exact R_dr
  replace R_tb : I16 dt 1 = I16 mo 30 := by rw [show I16 dt 1 = I8 dt 1 from fh15.at tdt rfl, show I16 mo 30 = I8 mo 30 from fh15.at tmo rfl]; exact R_tb
  obtain ⟨same, Rn⟩ := g_worth2 R_gb hU hR gI tcp tmo gck gP gF h15 fh15
  replace R_gb := Rn
  replace g := h_after g hB ht hS
  generalize H1 = H at g
  clear hB hk1 hz1 ht hvm hS
  refine lv_pop hx hb dL_law_914 rfl ?_
  refine lv_goto (tgt := 1241) hx hb dL_law_915 (by decide) ?_
  exact W.widen (by omega) (by omega) (kk z I16 L0 _ _ _ ⟨g, hI, hR, tcp, tmo, by rw [alw]; exact J1, by unfold h_J2; rw [atb]; exact J2, hU, by rw [ard, atp, abk, alb, abg, atu, arg]; exact R_al, by rw [atp, abt, amb]; exact R_tp, by rw [abk]; exact R_ck, by rw [ard]; exact R_fa, by rw [alb, atx, aun, alw, ahy]; exact R_bk, by rw [adt, adr]; exact R_dr, by rw [adt]; exact R_tb, by exact R_gb⟩ hl)
set_option maxHeartbeats 8000000 in
set_option maxRecDepth 100000 in
theorem law_20 {p : Program} {l : Launch} {e : Env} {s : State} {m : MethodId} {below : List Frame} {meth : Method} {c : Code} {b L : Nat} {xs : Nat → Int32} (C0 : lw_At p s m meth c b L xs) (hL : L ≤ 4096) {A : Nat → Prop} (hAe : (fun q : Nat => s.heap.size ≤ q) = A) {E : tE} {X : tX} (hk : h_Kr X s) (hX : h_S X A s s.heap) {i : Int32} (hi0 : 0 ≤ i.toInt) (hi8 : i.toInt + 8 ≤ L) {cp mo : Nat} {cells slots : Nat} (hcl : cells ≤ 500000) (hsl : slots ≤ 7000000) {z : tZ} {I0 : tI} {L0 : tL} {H : Heap} {locs : List Loc} {ls : Array Slot} (T : h_T E A s z I0 L0 H locs cp mo) (hl : lv_has ls 4 [(3, .int i), (2, .ref mo), (1, .ref cp), (0, .ref b)]) (kk : ∀ (z : tZ) (I0 : tI) (L0 : tL) (H : Heap) (locs : List Loc) (ls : Array Slot), h_T E A s z I0 L0 H locs cp mo → lv_has ls 4 [(3, .int i), (2, .ref mo), (1, .ref cp), (0, .ref b)] → W p l e room_1 s m #[Value.ref b] below meth c H locs (cells + 3) (slots + 17) (lw_Z below #[Value.ref b] s) (F0 m 1241 ls [])) : W p l e room_1 s m #[Value.ref b] below meth c H locs cells slots (lw_Z below #[Value.ref b] s) (F0 m 918 ls []) := by
  obtain ⟨hx, hb, hr, hml, hown, hts0, hSc, hbl, hlocks, hgv⟩ := id C0
  have hE := xs_E hts0
  have hts : ∀ w ∈ wsL_law, w.before #[Value.ref b] s = true := fun w h => hts0 w (wsL_law_in w h)
  have hA : ∀ q : Nat, s.heap.size ≤ q → A q := fun q h => by rw [← hAe]; exact h
  have hbA : ¬ A b := by rw [← hAe]; exact Nat.not_le.mpr hbl
  obtain ⟨g, hI, hR, tcp, tmo, J1, J2, hU, R_al, R_tp, R_ck, R_fa, R_bk, R_dr, R_tb, R_gb⟩ := T
  unfold h_J2 at J2
  obtain ⟨lw, rlw, tlw⟩ := hR.at mo 10 tmo (rfl : h_rs 13 10 = some (1310, false)) (by decide)
  have alw : h_ad z mo 10 = lw := h_ad.at rlw
  obtain ⟨tb, rtb, ttb⟩ := hR.at mo 32 tmo (rfl : h_rs 13 32 = some (1332, false)) (by decide)
  have atb : h_ad z mo 32 = tb := h_ad.at rtb
  obtain ⟨rd, rrd, trd⟩ := hR.at cp 2 tcp (rfl : h_rs 12 2 = some (5, false)) (by decide)
  have ard : h_ad z cp 2 = rd := h_ad.at rrd
  obtain ⟨tp, rtp, ttp⟩ := hR.at cp 0 tcp (rfl : h_rs 12 0 = some (9, false)) (by decide)
  have atp : h_ad z cp 0 = tp := h_ad.at rtp
  obtain ⟨bk, rbk, tbk⟩ := hR.at cp 3 tcp (rfl : h_rs 12 3 = some (1, false)) (by decide)
  have abk : h_ad z cp 3 = bk := h_ad.at rbk
  obtain ⟨lb, rlb, tlb⟩ := hR.at cp 1 tcp (rfl : h_rs 12 1 = some (4, false)) (by decide)
  have alb : h_ad z cp 1 = lb := h_ad.at rlb
  obtain ⟨bg, rbg, tbg⟩ := hR.at cp 5 tcp (rfl : h_rs 12 5 = some (10, false)) (by decide)
  have abg : h_ad z cp 5 = bg := h_ad.at rbg
  obtain ⟨tu, rtu, ttu⟩ := hR.at cp 4 tcp (rfl : h_rs 12 4 = some (11, false)) (by decide)
  have atu : h_ad z cp 4 = tu := h_ad.at rtu
  obtain ⟨rg, rrg, trg⟩ := hR.at cp 6 tcp (rfl : h_rs 12 6 = some (8, false)) (by decide)
  have arg : h_ad z cp 6 = rg := h_ad.at rrg
  obtain ⟨bt, rbt, tbt⟩ := hR.at tp 0 ttp (rfl : h_rs 9 0 = some (900, false)) (by decide)
  have abt : h_ad z tp 0 = bt := h_ad.at rbt
  obtain ⟨mb, rmb, tmb⟩ := hR.at mo 0 tmo (rfl : h_rs 13 0 = some (1300, false)) (by decide)
  have amb : h_ad z mo 0 = mb := h_ad.at rmb
  obtain ⟨tx, rtx, ttx⟩ := hR.at lb 1 tlb (rfl : h_rs 4 1 = some (401, false)) (by decide)
  have atx : h_ad z lb 1 = tx := h_ad.at rtx
  obtain ⟨un, run, tun⟩ := hR.at lb 0 tlb (rfl : h_rs 4 0 = some (6, false)) (by decide)
  have aun : h_ad z lb 0 = un := h_ad.at run
  obtain ⟨hy, rhy, thy⟩ := hR.at mo 11 tmo (rfl : h_rs 13 11 = some (1311, false)) (by decide)
  have ahy : h_ad z mo 11 = hy := h_ad.at rhy
  obtain ⟨dt, rdt, tdt⟩ := hR.at cp 7 tcp (rfl : h_rs 12 7 = some (3, false)) (by decide)
  have adt : h_ad z cp 7 = dt := h_ad.at rdt
  obtain ⟨dr, rdr, tdr⟩ := hR.at dt 2 tdt (rfl : h_rs 3 2 = some (302, false)) (by decide)
  have adr : h_ad z dt 2 = dr := h_ad.at rdr
  obtain ⟨rl, rrl, trl⟩ := hR.at rd 1 trd (rfl : h_rs 5 1 = some (6, false)) (by decide)
  have arl : h_ad z rd 1 = rl := h_ad.at rrl
  obtain ⟨rn, rrn, trn⟩ := hR.at rl 0 trl (rfl : h_rs 6 0 = some (600, false)) (by decide)
  have arn : h_ad z rl 0 = rn := h_ad.at rrn
  obtain ⟨ro, rro, tro⟩ := hR.at rl 1 trl (rfl : h_rs 6 1 = some (601, false)) (by decide)
  have aro : h_ad z rl 1 = ro := h_ad.at rro
  obtain ⟨rk, rrk, trk⟩ := hR.at dt 0 tdt (rfl : h_rs 3 0 = some (300, false)) (by decide)
  have ark : h_ad z dt 0 = rk := h_ad.at rrk
  rw [alw] at J1
  rw [atb] at J2
  rw [ard, atp, abk, alb, abg, atu, arg] at R_al
  rw [atp, abt, amb] at R_tp
  rw [abk] at R_ck
  rw [ard] at R_fa
  rw [alb, atx, aun, alw, ahy] at R_bk
  rw [adt, adr] at R_dr
  rw [adt] at R_tb
  refine lv_aload_n hx hb dL_law_918 rfl (lv_at hl 2 rfl) ?_
  refine lv_aload_n hx hb dL_law_919 rfl (lv_at hl 3 rfl) ?_
  refine lv_iload_n hx hb dL_law_920 rfl (lv_at hl 0 rfl) ?_
  refine lv_iconst (v := 1) hx hb dL_law_921 (by decide) ?_
  refine lv_iadd hx hb dL_law_922 ?_
  refine lv_topi (fun v1 ev1 => ?_)
  refine va_sld hx hb hSc hbl hbA g.2.1 (h_ix hi0 hi8 hL ev1 (k := 1) (by decide) (by decide) (by decide)) dL_law_923 ?_
  refine lv_topi (fun v2 ev2 => ?_)
  refine lv_aload_n hx hb dL_law_924 rfl (lv_at hl 3 rfl) ?_
  refine lv_iload_n hx hb dL_law_925 rfl (lv_at hl 0 rfl) ?_
  refine lv_iconst (v := 2) hx hb dL_law_926 (by decide) ?_
  refine lv_iadd hx hb dL_law_927 ?_
  refine lv_topi (fun v3 ev3 => ?_)
  refine va_sld hx hb hSc hbl hbA g.2.1 (h_ix hi0 hi8 hL ev3 (k := 2) (by decide) (by decide) (by decide)) dL_law_928 ?_
  refine lv_topi (fun v4 ev4 => ?_)
  refine lv_aload_n hx hb dL_law_929 rfl (lv_at hl 3 rfl) ?_
  refine lv_iload_n hx hb dL_law_930 rfl (lv_at hl 0 rfl) ?_
  refine lv_iconst (v := 3) hx hb dL_law_931 (by decide) ?_
  refine lv_iadd hx hb dL_law_932 ?_
  refine lv_topi (fun v5 ev5 => ?_)
  refine va_sld hx hb hSc hbl hbA g.2.1 (h_ix hi0 hi8 hL ev5 (k := 3) (by decide) (by decide) (by decide)) dL_law_933 ?_
  refine lv_topi (fun v6 ev6 => ?_)
  refine lv_aload_n hx hb dL_law_934 rfl (lv_at hl 3 rfl) ?_
  refine lv_iload_n hx hb dL_law_935 rfl (lv_at hl 0 rfl) ?_
  refine lv_iconst (v := 4) hx hb dL_law_936 (by decide) ?_
  refine lv_iadd hx hb dL_law_937 ?_
  refine lv_topi (fun v7 ev7 => ?_)
  refine va_sld hx hb hSc hbl hbA g.2.1 (h_ix hi0 hi8 hL ev7 (k := 4) (by decide) (by decide) (by decide)) dL_law_938 ?_
  refine lv_topi (fun v8 ev8 => ?_)
  have hIo := hI
  refine va_calli (va_runV (As := [.int v2, .int v4, .int v6, .int v8]) (rest := []) ⟨hx, hb, hml, hown, hts⟩ (tX11_worthTurnF l E X A z I0 L0 cp tcp v2 (v2.toInt) rfl v4 (v4.toInt) rfl v6 (v6.toInt) rfl v8 (v8.toInt) rfl) (cwV 4 hts gL_law_X11_worthTurn rfl rfl rfl (by decide +kernel) ⟨Nat.le_of_ble_eq_true rfl, Nat.le_of_ble_eq_true rfl⟩) ⟨h_blind _ _ _ _ _ _ _, h_recv g tcp (by decide) so_12 (q := (RX11, TX11, 8)) rfl, h_pre _ hE hk hX hA hI hR g⟩ rfl rfl hl.1 rfl (lv_room (Nat.le_of_ble_eq_true rfl)) dL_law_939 ⟨show cells + 0 ≤ 600000 by omega, show slots + 0 ≤ 7302250 by omega⟩) g.2.1 (fun q _ h => h) (fun q h => h) (fun rh9 I10 t H1 locs ht hvm h9 hB hz1 hk1 hS => ?_)
  obtain ⟨hI, fh9, h9⟩ := h9
  replace J1 : h_J1 (I10 lw) := by rw [show I10 lw = I0 lw from funext (fun k => fh9.at tlw rfl)]; exact J1
  rw [← fh9.at tmo rfl, show I0 tb = I10 tb from funext (fun k => (fh9.at ttb rfl).symm)] at J2
  have oR_al := R_al
  have oR_tp := R_tp
  have oR_ck := R_ck
  have oR_fa := R_fa
  have oR_bk := R_bk
  have oR_dr := R_dr
  have oR_tb := R_tb
  have oR_gb := R_gb
  skip
  replace R_tp : I10 tp 1 = I10 mo 1 ∧ I10 bt = I10 mb := by rw [show I10 tp 1 = I0 tp 1 from fh9.at ttp rfl, show I10 mo 1 = I0 mo 1 from fh9.at tmo rfl, show I10 bt = I0 bt from funext (fun k => fh9.at tbt rfl), show I10 mb = I0 mb from funext (fun k => fh9.at tmb rfl)]; exact R_tp
  replace R_ck : I10 bk 3 = I10 mo 12 := by rw [show I10 bk 3 = I0 bk 3 from fh9.at tbk rfl, show I10 mo 12 = I0 mo 12 from fh9.at tmo rfl]; exact R_ck
  replace R_fa : I10 rd 2 = I10 mo 8 ∧ I10 rd 3 = I10 mo 9 := by rw [show I10 rd 2 = I0 rd 2 from fh9.at trd rfl, show I10 rd 3 = I0 rd 3 from fh9.at trd rfl, show I10 mo 8 = I0 mo 8 from fh9.at tmo rfl, show I10 mo 9 = I0 mo 9 from fh9.at tmo rfl]; exact R_fa
  replace R_bk : h_bk z I10 tx un lw hy := R_bk.F hR ttx tun tlw thy fh9 (fun _ => rfl) (fun _ => rfl) (fun _ => rfl) (fun _ => rfl) (fun _ => rfl)
  replace R_dr : (I10 dr (I10 mo 12).toInt.toNat).toInt = (I10 mo 31).toInt ∧ ∀ k : Nat, (I10 mo 12).toInt < (k : Int) → I10 dr k = 0 := by rw [show I10 dr = I0 dr from funext (fun k => fh9.at tdr rfl), show I10 mo 12 = I0 mo 12 from fh9.at tmo rfl, show I10 mo 31 = I0 mo 31 from fh9.at tmo rfl]; exact R_dr
  replace R_tb : I10 dt 1 = I10 mo 30 := by rw [show I10 dt 1 = I0 dt 1 from fh9.at tdt rfl, show I10 mo 30 = I0 mo 30 from fh9.at tmo rfl]; exact R_tb
  have gck : I0 (h_ad z cp 3) 3 = I0 mo 12 := by rw [abk]; exact oR_ck
  have gI := hIo
  have gP := h9
  have gF := fh9
  have ger : h_er z I0 I10 := fun a h9 => fh9.ref (by decide) rfl h9
  replace g := h_after g hB ht hS
  generalize H1 = H at g
  clear hB hk1 hz1 ht hvm hS
  refine lv_pop hx hb dL_law_942 rfl ?_
  refine lv_aload_n hx hb dL_law_943 rfl (lv_at hl 1 rfl) ?_
  refine lv_aload_n hx hb dL_law_944 rfl (lv_at hl 3 rfl) ?_
  refine lv_iload_n hx hb dL_law_945 rfl (lv_at hl 0 rfl) ?_
  refine lv_iconst (v := 1) hx hb dL_law_946 (by decide) ?_
  refine lv_iadd hx hb dL_law_947 ?_
  refine lv_topi (fun v11 ev11 => ?_)
  refine va_sld hx hb hSc hbl hbA g.2.1 (h_ix hi0 hi8 hL ev11 (k := 1) (by decide) (by decide) (by decide)) dL_law_948 ?_
  refine xw_i (v := v2) (by rw [show v11 = v1 from ev11.trans ev1.symm]; exact ev2.symm) ?_
  refine lv_aload_n hx hb dL_law_949 rfl (lv_at hl 3 rfl) ?_
  refine lv_iload_n hx hb dL_law_950 rfl (lv_at hl 0 rfl) ?_
  refine lv_iconst (v := 2) hx hb dL_law_951 (by decide) ?_
  refine lv_iadd hx hb dL_law_952 ?_
  refine lv_topi (fun v13 ev13 => ?_)
  refine va_sld hx hb hSc hbl hbA g.2.1 (h_ix hi0 hi8 hL ev13 (k := 2) (by decide) (by decide) (by decide)) dL_law_953 ?_
  refine xw_i (v := v4) (by rw [show v13 = v3 from ev13.trans ev3.symm]; exact ev4.symm) ?_
  refine lv_aload_n hx hb dL_law_954 rfl (lv_at hl 3 rfl) ?_
  refine lv_iload_n hx hb dL_law_955 rfl (lv_at hl 0 rfl) ?_
  refine lv_iconst (v := 3) hx hb dL_law_956 (by decide) ?_
  refine lv_iadd hx hb dL_law_957 ?_
  refine lv_topi (fun v15 ev15 => ?_)
  refine va_sld hx hb hSc hbl hbA g.2.1 (h_ix hi0 hi8 hL ev15 (k := 3) (by decide) (by decide) (by decide)) dL_law_958 ?_
  refine xw_i (v := v6) (by rw [show v15 = v5 from ev15.trans ev5.symm]; exact ev6.symm) ?_
  refine lv_aload_n hx hb dL_law_959 rfl (lv_at hl 3 rfl) ?_
  refine lv_iload_n hx hb dL_law_960 rfl (lv_at hl 0 rfl) ?_
  refine lv_iconst (v := 4) hx hb dL_law_961 (by decide) ?_
  refine lv_iadd hx hb dL_law_962 ?_
  refine lv_topi (fun v17 ev17 => ?_)
  refine va_sld hx hb hSc hbl hbA g.2.1 (h_ix hi0 hi8 hL ev17 (k := 4) (by decide) (by decide) (by decide)) dL_law_963 ?_
  refine xw_i (v := v8) (by rw [show v17 = v7 from ev17.trans ev7.symm]; exact ev8.symm) ?_
  have hIo := hI
  refine va_calli (va_runV (As := [.int v2, .int v4, .int v6, .int v8]) (rest := []) ⟨hx, hb, hml, hown, hts⟩ (tX12_worthTurnF l E X A z I10 L0 mo tmo v2 (v2.toInt) rfl v4 (v4.toInt) rfl v6 (v6.toInt) rfl v8 (v8.toInt) rfl) (cwV 4 hts gL_law_X12_worthTurn rfl rfl rfl (by decide +kernel) ⟨Nat.le_of_ble_eq_true rfl, Nat.le_of_ble_eq_true rfl⟩) ⟨h_blind _ _ _ _ _ _ _, h_recv g tmo (by decide) so_13 (q := (RX12, TX12, 51)) rfl, h_pre _ hE hk hX hA hI hR g⟩ rfl rfl hl.1 rfl (lv_room (Nat.le_of_ble_eq_true rfl)) dL_law_964 ⟨show cells + 0 ≤ 600000 by omega, show slots + 0 ≤ 7302250 by omega⟩) g.2.1 (fun q _ h => h) (fun q h => h) (fun rh19 I20 t H1 locs ht hvm h19 hB hz1 hk1 hS => ?_)
  obtain ⟨hI, fh19, h19⟩ := h19
  replace J1 : h_J1 (I20 lw) := by rw [show I20 lw = I10 lw from funext (fun k => fh19.at tlw rfl)]; exact J1
  rw [← fh19.at tmo rfl, show I10 tb = I20 tb from funext (fun k => (fh19.at ttb rfl).symm)] at J2
  have oR_al := R_al
  have oR_tp := R_tp
  have oR_ck := R_ck
  have oR_fa := R_fa
  have oR_bk := R_bk
  have oR_dr := R_dr
  have oR_tb := R_tb
  have oR_gb := R_gb
  skip
  replace R_tp : I20 tp 1 = I20 mo 1 ∧ I20 bt = I20 mb := by rw [show I20 tp 1 = I10 tp 1 from fh19.at ttp rfl, show I20 mo 1 = I10 mo 1 from fh19.at tmo rfl, show I20 bt = I10 bt from funext (fun k => fh19.at tbt rfl), show I20 mb = I10 mb from funext (fun k => fh19.at tmb rfl)]; exact R_tp
  replace R_ck : I20 bk 3 = I20 mo 12 := by rw [show I20 bk 3 = I10 bk 3 from fh19.at tbk rfl, show I20 mo 12 = I10 mo 12 from fh19.at tmo rfl]; exact R_ck
  replace R_fa : I20 rd 2 = I20 mo 8 ∧ I20 rd 3 = I20 mo 9 := by rw [show I20 rd 2 = I10 rd 2 from fh19.at trd rfl, show I20 rd 3 = I10 rd 3 from fh19.at trd rfl, show I20 mo 8 = I10 mo 8 from fh19.at tmo rfl, show I20 mo 9 = I10 mo 9 from fh19.at tmo rfl]; exact R_fa
  replace R_bk : h_bk z I20 tx un lw hy := R_bk.F hR ttx tun tlw thy fh19 (fun _ => rfl) (fun _ => rfl) (fun _ => rfl) (fun _ => rfl) (fun _ => rfl)
  replace R_dr : (I20 dr (I20 mo 12).toInt.toNat).toInt = (I20 mo 31).toInt ∧ ∀ k : Nat, (I20 mo 12).toInt < (k : Int) → I20 dr k = 0 := by rw [show I20 dr = I10 dr from funext (fun k => fh19.at tdr rfl), show I20 mo 12 = I10 mo 12 from fh19.at tmo rfl, show I20 mo 31 = I10 mo 31 from fh19.at tmo rfl]; exact R_dr
  replace R_tb : I20 dt 1 = I20 mo 30 := by rw [show I20 dt 1 = I10 dt 1 from fh19.at tdt rfl, show I20 mo 30 = I10 mo 30 from fh19.at tmo rfl]; exact R_tb
  obtain ⟨same, Rn⟩ := g_worthTurn2 R_gb hU hR gI tcp tmo gck gP gF h19 fh19
  replace R_gb := Rn
  replace g := h_after g hB ht hS
  generalize H1 = H at g
  clear hB hk1 hz1 ht hvm hS
  refine lv_pop hx hb dL_law_967 rfl ?_
  refine lv_goto (tgt := 1241) hx hb dL_law_968 (by decide) ?_
  exact W.widen (by omega) (by omega) (kk z I20 L0 _ _ _ ⟨g, hI, hR, tcp, tmo, by rw [alw]; exact J1, by unfold h_J2; rw [atb]; exact J2, hU, by rw [ard, atp, abk, alb, abg, atu, arg]; exact R_al, by rw [atp, abt, amb]; exact R_tp, by rw [abk]; exact R_ck, by rw [ard]; exact R_fa, by rw [alb, atx, aun, alw, ahy]; exact R_bk, by rw [adt, adr]; exact R_dr, by rw [adt]; exact R_tb, by exact R_gb⟩ hl)
set_option maxHeartbeats 8000000 in
set_option maxRecDepth 100000 in
theorem law_21 {p : Program} {l : Launch} {e : Env} {s : State} {m : MethodId} {below : List Frame} {meth : Method} {c : Code} {b L : Nat} {xs : Nat → Int32} (C0 : lw_At p s m meth c b L xs) (hL : L ≤ 4096) {A : Nat → Prop} (hAe : (fun q : Nat => s.heap.size ≤ q) = A) {E : tE} {X : tX} (hk : h_Kr X s) (hX : h_S X A s s.heap) {i : Int32} (hi0 : 0 ≤ i.toInt) (hi8 : i.toInt + 8 ≤ L) {cp mo : Nat} {cells slots : Nat} (hcl : cells ≤ 500000) (hsl : slots ≤ 7000000) {z : tZ} {I0 : tI} {L0 : tL} {H : Heap} {locs : List Loc} {ls : Array Slot} (T : h_T E A s z I0 L0 H locs cp mo) (hl : lv_has ls 4 [(3, .int i), (2, .ref mo), (1, .ref cp), (0, .ref b)]) (kk : ∀ (z : tZ) (I0 : tI) (L0 : tL) (H : Heap) (locs : List Loc) (ls : Array Slot), h_T E A s z I0 L0 H locs cp mo → lv_has ls 4 [(3, .int i), (2, .ref mo), (1, .ref cp), (0, .ref b)] → W p l e room_1 s m #[Value.ref b] below meth c H locs (cells + 3) (slots + 17) (lw_Z below #[Value.ref b] s) (F0 m 1241 ls [])) : W p l e room_1 s m #[Value.ref b] below meth c H locs cells slots (lw_Z below #[Value.ref b] s) (F0 m 971 ls []) := by
  obtain ⟨hx, hb, hr, hml, hown, hts0, hSc, hbl, hlocks, hgv⟩ := id C0
  have hE := xs_E hts0
  have hts : ∀ w ∈ wsL_law, w.before #[Value.ref b] s = true := fun w h => hts0 w (wsL_law_in w h)
  have hA : ∀ q : Nat, s.heap.size ≤ q → A q := fun q h => by rw [← hAe]; exact h
  have hbA : ¬ A b := by rw [← hAe]; exact Nat.not_le.mpr hbl
  obtain ⟨g, hI, hR, tcp, tmo, J1, J2, hU, R_al, R_tp, R_ck, R_fa, R_bk, R_dr, R_tb, R_gb⟩ := T
  unfold h_J2 at J2
  obtain ⟨lw, rlw, tlw⟩ := hR.at mo 10 tmo (rfl : h_rs 13 10 = some (1310, false)) (by decide)
  have alw : h_ad z mo 10 = lw := h_ad.at rlw
  obtain ⟨tb, rtb, ttb⟩ := hR.at mo 32 tmo (rfl : h_rs 13 32 = some (1332, false)) (by decide)
  have atb : h_ad z mo 32 = tb := h_ad.at rtb
  obtain ⟨rd, rrd, trd⟩ := hR.at cp 2 tcp (rfl : h_rs 12 2 = some (5, false)) (by decide)
  have ard : h_ad z cp 2 = rd := h_ad.at rrd
  obtain ⟨tp, rtp, ttp⟩ := hR.at cp 0 tcp (rfl : h_rs 12 0 = some (9, false)) (by decide)
  have atp : h_ad z cp 0 = tp := h_ad.at rtp
  obtain ⟨bk, rbk, tbk⟩ := hR.at cp 3 tcp (rfl : h_rs 12 3 = some (1, false)) (by decide)
  have abk : h_ad z cp 3 = bk := h_ad.at rbk
  obtain ⟨lb, rlb, tlb⟩ := hR.at cp 1 tcp (rfl : h_rs 12 1 = some (4, false)) (by decide)
  have alb : h_ad z cp 1 = lb := h_ad.at rlb
  obtain ⟨bg, rbg, tbg⟩ := hR.at cp 5 tcp (rfl : h_rs 12 5 = some (10, false)) (by decide)
  have abg : h_ad z cp 5 = bg := h_ad.at rbg
  obtain ⟨tu, rtu, ttu⟩ := hR.at cp 4 tcp (rfl : h_rs 12 4 = some (11, false)) (by decide)
  have atu : h_ad z cp 4 = tu := h_ad.at rtu
  obtain ⟨rg, rrg, trg⟩ := hR.at cp 6 tcp (rfl : h_rs 12 6 = some (8, false)) (by decide)
  have arg : h_ad z cp 6 = rg := h_ad.at rrg
  obtain ⟨bt, rbt, tbt⟩ := hR.at tp 0 ttp (rfl : h_rs 9 0 = some (900, false)) (by decide)
  have abt : h_ad z tp 0 = bt := h_ad.at rbt
  obtain ⟨mb, rmb, tmb⟩ := hR.at mo 0 tmo (rfl : h_rs 13 0 = some (1300, false)) (by decide)
  have amb : h_ad z mo 0 = mb := h_ad.at rmb
  obtain ⟨tx, rtx, ttx⟩ := hR.at lb 1 tlb (rfl : h_rs 4 1 = some (401, false)) (by decide)
  have atx : h_ad z lb 1 = tx := h_ad.at rtx
  obtain ⟨un, run, tun⟩ := hR.at lb 0 tlb (rfl : h_rs 4 0 = some (6, false)) (by decide)
  have aun : h_ad z lb 0 = un := h_ad.at run
  obtain ⟨hy, rhy, thy⟩ := hR.at mo 11 tmo (rfl : h_rs 13 11 = some (1311, false)) (by decide)
  have ahy : h_ad z mo 11 = hy := h_ad.at rhy
  obtain ⟨dt, rdt, tdt⟩ := hR.at cp 7 tcp (rfl : h_rs 12 7 = some (3, false)) (by decide)
  have adt : h_ad z cp 7 = dt := h_ad.at rdt
  obtain ⟨dr, rdr, tdr⟩ := hR.at dt 2 tdt (rfl : h_rs 3 2 = some (302, false)) (by decide)
  have adr : h_ad z dt 2 = dr := h_ad.at rdr
  obtain ⟨rl, rrl, trl⟩ := hR.at rd 1 trd (rfl : h_rs 5 1 = some (6, false)) (by decide)
  have arl : h_ad z rd 1 = rl := h_ad.at rrl
  obtain ⟨rn, rrn, trn⟩ := hR.at rl 0 trl (rfl : h_rs 6 0 = some (600, false)) (by decide)
  have arn : h_ad z rl 0 = rn := h_ad.at rrn
  obtain ⟨ro, rro, tro⟩ := hR.at rl 1 trl (rfl : h_rs 6 1 = some (601, false)) (by decide)
  have aro : h_ad z rl 1 = ro := h_ad.at rro
  obtain ⟨rk, rrk, trk⟩ := hR.at dt 0 tdt (rfl : h_rs 3 0 = some (300, false)) (by decide)
  have ark : h_ad z dt 0 = rk := h_ad.at rrk
  rw [alw] at J1
  rw [atb] at J2
  rw [ard, atp, abk, alb, abg, atu, arg] at R_al
  rw [atp, abt, amb] at R_tp
  rw [abk] at R_ck
  rw [ard] at R_fa
  rw [alb, atx, aun, alw, ahy] at R_bk
  rw [adt, adr] at R_dr
  rw [adt] at R_tb
  refine lv_aload_n hx hb dL_law_971 rfl (lv_at hl 2 rfl) ?_
  have hIo := hI
  refine va_calli (va_runV (As := []) (rest := []) ⟨hx, hb, hml, hown, hts⟩ (tX11_ring l E X A z I0 L0 cp tcp) (cwV 0 hts gL_law_X11_ring rfl rfl rfl (by decide +kernel) ⟨Nat.le_of_ble_eq_true rfl, Nat.le_of_ble_eq_true rfl⟩) ⟨h_blind _ _ _ _ _ _ _, h_recv g tcp (by decide) so_12 (q := (RX11, TX11, 8)) rfl, h_pre _ hE hk hX hA hI hR g⟩ rfl rfl hl.1 rfl (lv_room (Nat.le_of_ble_eq_true rfl)) dL_law_972 ⟨show cells + 0 ≤ 600000 by omega, show slots + 0 ≤ 7302250 by omega⟩) g.2.1 (fun q _ h => h) (fun q h => h) (fun rh1 I2 t H1 locs ht hvm h1 hB hz1 hk1 hS => ?_)
  obtain ⟨hI, fh1, h1⟩ := h1
  replace J1 : h_J1 (I2 lw) := by rw [show I2 lw = I0 lw from funext (fun k => fh1.at tlw rfl)]; exact J1
  rw [← fh1.at tmo rfl, show I0 tb = I2 tb from funext (fun k => (fh1.at ttb rfl).symm)] at J2
  skip
  replace R_tp : I2 tp 1 = I2 mo 1 ∧ I2 bt = I2 mb := by rw [show I2 tp 1 = I0 tp 1 from fh1.at ttp rfl, show I2 mo 1 = I0 mo 1 from fh1.at tmo rfl, show I2 bt = I0 bt from funext (fun k => fh1.at tbt rfl), show I2 mb = I0 mb from funext (fun k => fh1.at tmb rfl)]; exact R_tp
  replace R_ck : I2 bk 3 = I2 mo 12 := by rw [show I2 bk 3 = I0 bk 3 from fh1.at tbk rfl, show I2 mo 12 = I0 mo 12 from fh1.at tmo rfl]; exact R_ck
  replace R_fa : I2 rd 2 = I2 mo 8 ∧ I2 rd 3 = I2 mo 9 := by rw [show I2 rd 2 = I0 rd 2 from fh1.at trd rfl, show I2 rd 3 = I0 rd 3 from fh1.at trd rfl, show I2 mo 8 = I0 mo 8 from fh1.at tmo rfl, show I2 mo 9 = I0 mo 9 from fh1.at tmo rfl]; exact R_fa
  replace R_bk : h_bk z I2 tx un lw hy := R_bk.F hR ttx tun tlw thy fh1 (fun _ => rfl) (fun _ => rfl) (fun _ => rfl) (fun _ => rfl) (fun _ => rfl)
  replace R_dr : (I2 dr (I2 mo 12).toInt.toNat).toInt = (I2 mo 31).toInt ∧ ∀ k : Nat, (I2 mo 12).toInt < (k : Int) → I2 dr k = 0 := by rw [show I2 dr = I0 dr from funext (fun k => fh1.at tdr rfl), show I2 mo 12 = I0 mo 12 from fh1.at tmo rfl, show I2 mo 31 = I0 mo 31 from fh1.at tmo rfl]; exact R_dr
  replace R_tb : I2 dt 1 = I2 mo 30 := by rw [show I2 dt 1 = I0 dt 1 from fh1.at tdt rfl, show I2 mo 30 = I0 mo 30 from fh1.at tmo rfl]; exact R_tb
  replace R_gb : h_gb z I2 cp mo := R_gb.F hR tcp tmo fh1 (by decide) (hIo.rd mo 13 tmo rfl (rfl : h_bd 13 13 = (0, 60))).2
  replace g := h_after g hB ht hS
  generalize H1 = H at g
  clear hB hk1 hz1 ht hvm hS
  refine lv_pop hx hb dL_law_975 rfl ?_
  refine lv_aload_n hx hb dL_law_976 rfl (lv_at hl 1 rfl) ?_
  have hIo := hI
  refine va_calli (va_runV (As := []) (rest := []) ⟨hx, hb, hml, hown, hts⟩ (tX12_ring l E X A z I2 L0 mo tmo) (cwV 0 hts gL_law_X12_ring rfl rfl rfl (by decide +kernel) ⟨Nat.le_of_ble_eq_true rfl, Nat.le_of_ble_eq_true rfl⟩) ⟨h_blind _ _ _ _ _ _ _, h_recv g tmo (by decide) so_13 (q := (RX12, TX12, 51)) rfl, h_pre _ hE hk hX hA hI hR g⟩ rfl rfl hl.1 rfl (lv_room (Nat.le_of_ble_eq_true rfl)) dL_law_977 ⟨show cells + 0 ≤ 600000 by omega, show slots + 0 ≤ 7302250 by omega⟩) g.2.1 (fun q _ h => h) (fun q h => h) (fun rh3 I4 t H1 locs ht hvm h3 hB hz1 hk1 hS => ?_)
  obtain ⟨hI, fh3, h3⟩ := h3
  replace J1 : h_J1 (I4 lw) := by rw [show I4 lw = I2 lw from funext (fun k => fh3.at tlw rfl)]; exact J1
  rw [← fh3.at tmo rfl, show I2 tb = I4 tb from funext (fun k => (fh3.at ttb rfl).symm)] at J2
  skip
  replace R_tp : I4 tp 1 = I4 mo 1 ∧ I4 bt = I4 mb := by rw [show I4 tp 1 = I2 tp 1 from fh3.at ttp rfl, show I4 mo 1 = I2 mo 1 from fh3.at tmo rfl, show I4 bt = I2 bt from funext (fun k => fh3.at tbt rfl), show I4 mb = I2 mb from funext (fun k => fh3.at tmb rfl)]; exact R_tp
  replace R_ck : I4 bk 3 = I4 mo 12 := by rw [show I4 bk 3 = I2 bk 3 from fh3.at tbk rfl, show I4 mo 12 = I2 mo 12 from fh3.at tmo rfl]; exact R_ck
  replace R_fa : I4 rd 2 = I4 mo 8 ∧ I4 rd 3 = I4 mo 9 := by rw [show I4 rd 2 = I2 rd 2 from fh3.at trd rfl, show I4 rd 3 = I2 rd 3 from fh3.at trd rfl, show I4 mo 8 = I2 mo 8 from fh3.at tmo rfl, show I4 mo 9 = I2 mo 9 from fh3.at tmo rfl]; exact R_fa
  replace R_bk : h_bk z I4 tx un lw hy := R_bk.F hR ttx tun tlw thy fh3 (fun _ => rfl) (fun _ => rfl) (fun _ => rfl) (fun _ => rfl) (fun _ => rfl)
  replace R_dr : (I4 dr (I4 mo 12).toInt.toNat).toInt = (I4 mo 31).toInt ∧ ∀ k : Nat, (I4 mo 12).toInt < (k : Int) → I4 dr k = 0 := by rw [show I4 dr = I2 dr from funext (fun k => fh3.at tdr rfl), show I4 mo 12 = I2 mo 12 from fh3.at tmo rfl, show I4 mo 31 = I2 mo 31 from fh3.at tmo rfl]; exact R_dr
  replace R_tb : I4 dt 1 = I4 mo 30 := by rw [show I4 dt 1 = I2 dt 1 from fh3.at tdt rfl, show I4 mo 30 = I2 mo 30 from fh3.at tmo rfl]; exact R_tb
  replace R_gb : h_gb z I4 cp mo := R_gb.F hR tcp tmo fh3 (by decide) (hIo.rd mo 13 tmo rfl (rfl : h_bd 13 13 = (0, 60))).2
  replace g := h_after g hB ht hS
  generalize H1 = H at g
  clear hB hk1 hz1 ht hvm hS
  refine lv_pop hx hb dL_law_980 rfl ?_
  refine lv_goto (tgt := 1241) hx hb dL_law_981 (by decide) ?_
  exact W.widen (by omega) (by omega) (kk z I4 L0 _ _ _ ⟨g, hI, hR, tcp, tmo, by rw [alw]; exact J1, by unfold h_J2; rw [atb]; exact J2, hU, by rw [ard, atp, abk, alb, abg, atu, arg]; exact R_al, by rw [atp, abt, amb]; exact R_tp, by rw [abk]; exact R_ck, by rw [ard]; exact R_fa, by rw [alb, atx, aun, alw, ahy]; exact R_bk, by rw [adt, adr]; exact R_dr, by rw [adt]; exact R_tb, by exact R_gb⟩ hl)
set_option maxHeartbeats 8000000 in
set_option maxRecDepth 100000 in
theorem law_22 {p : Program} {l : Launch} {e : Env} {s : State} {m : MethodId} {below : List Frame} {meth : Method} {c : Code} {b L : Nat} {xs : Nat → Int32} (C0 : lw_At p s m meth c b L xs) (hL : L ≤ 4096) {A : Nat → Prop} (hAe : (fun q : Nat => s.heap.size ≤ q) = A) {E : tE} {X : tX} (hk : h_Kr X s) (hX : h_S X A s s.heap) {i : Int32} (hi0 : 0 ≤ i.toInt) (hi8 : i.toInt + 8 ≤ L) {cp mo : Nat} {cells slots : Nat} (hcl : cells ≤ 500000) (hsl : slots ≤ 7000000) {z : tZ} {I0 : tI} {L0 : tL} {H : Heap} {locs : List Loc} {ls : Array Slot} (T : h_T E A s z I0 L0 H locs cp mo) (hl : lv_has ls 4 [(3, .int i), (2, .ref mo), (1, .ref cp), (0, .ref b)]) (kk : ∀ (z : tZ) (I0 : tI) (L0 : tL) (H : Heap) (locs : List Loc) (ls : Array Slot), h_T E A s z I0 L0 H locs cp mo → lv_has ls 4 [(3, .int i), (2, .ref mo), (1, .ref cp), (0, .ref b)] → W p l e room_1 s m #[Value.ref b] below meth c H locs (cells + 3) (slots + 17) (lw_Z below #[Value.ref b] s) (F0 m 1241 ls [])) : W p l e room_1 s m #[Value.ref b] below meth c H locs cells slots (lw_Z below #[Value.ref b] s) (F0 m 984 ls []) := by
  obtain ⟨hx, hb, hr, hml, hown, hts0, hSc, hbl, hlocks, hgv⟩ := id C0
  have hE := xs_E hts0
  have hts : ∀ w ∈ wsL_law, w.before #[Value.ref b] s = true := fun w h => hts0 w (wsL_law_in w h)
  have hA : ∀ q : Nat, s.heap.size ≤ q → A q := fun q h => by rw [← hAe]; exact h
  have hbA : ¬ A b := by rw [← hAe]; exact Nat.not_le.mpr hbl
  obtain ⟨g, hI, hR, tcp, tmo, J1, J2, hU, R_al, R_tp, R_ck, R_fa, R_bk, R_dr, R_tb, R_gb⟩ := T
  unfold h_J2 at J2
  obtain ⟨lw, rlw, tlw⟩ := hR.at mo 10 tmo (rfl : h_rs 13 10 = some (1310, false)) (by decide)
  have alw : h_ad z mo 10 = lw := h_ad.at rlw
  obtain ⟨tb, rtb, ttb⟩ := hR.at mo 32 tmo (rfl : h_rs 13 32 = some (1332, false)) (by decide)
  have atb : h_ad z mo 32 = tb := h_ad.at rtb
  obtain ⟨rd, rrd, trd⟩ := hR.at cp 2 tcp (rfl : h_rs 12 2 = some (5, false)) (by decide)
  have ard : h_ad z cp 2 = rd := h_ad.at rrd
  obtain ⟨tp, rtp, ttp⟩ := hR.at cp 0 tcp (rfl : h_rs 12 0 = some (9, false)) (by decide)
  have atp : h_ad z cp 0 = tp := h_ad.at rtp
  obtain ⟨bk, rbk, tbk⟩ := hR.at cp 3 tcp (rfl : h_rs 12 3 = some (1, false)) (by decide)
  have abk : h_ad z cp 3 = bk := h_ad.at rbk
  obtain ⟨lb, rlb, tlb⟩ := hR.at cp 1 tcp (rfl : h_rs 12 1 = some (4, false)) (by decide)
  have alb : h_ad z cp 1 = lb := h_ad.at rlb
  obtain ⟨bg, rbg, tbg⟩ := hR.at cp 5 tcp (rfl : h_rs 12 5 = some (10, false)) (by decide)
  have abg : h_ad z cp 5 = bg := h_ad.at rbg
  obtain ⟨tu, rtu, ttu⟩ := hR.at cp 4 tcp (rfl : h_rs 12 4 = some (11, false)) (by decide)
  have atu : h_ad z cp 4 = tu := h_ad.at rtu
  obtain ⟨rg, rrg, trg⟩ := hR.at cp 6 tcp (rfl : h_rs 12 6 = some (8, false)) (by decide)
  have arg : h_ad z cp 6 = rg := h_ad.at rrg
  obtain ⟨bt, rbt, tbt⟩ := hR.at tp 0 ttp (rfl : h_rs 9 0 = some (900, false)) (by decide)
  have abt : h_ad z tp 0 = bt := h_ad.at rbt
  obtain ⟨mb, rmb, tmb⟩ := hR.at mo 0 tmo (rfl : h_rs 13 0 = some (1300, false)) (by decide)
  have amb : h_ad z mo 0 = mb := h_ad.at rmb
  obtain ⟨tx, rtx, ttx⟩ := hR.at lb 1 tlb (rfl : h_rs 4 1 = some (401, false)) (by decide)
  have atx : h_ad z lb 1 = tx := h_ad.at rtx
  obtain ⟨un, run, tun⟩ := hR.at lb 0 tlb (rfl : h_rs 4 0 = some (6, false)) (by decide)
  have aun : h_ad z lb 0 = un := h_ad.at run
  obtain ⟨hy, rhy, thy⟩ := hR.at mo 11 tmo (rfl : h_rs 13 11 = some (1311, false)) (by decide)
  have ahy : h_ad z mo 11 = hy := h_ad.at rhy
  obtain ⟨dt, rdt, tdt⟩ := hR.at cp 7 tcp (rfl : h_rs 12 7 = some (3, false)) (by decide)
  have adt : h_ad z cp 7 = dt := h_ad.at rdt
  obtain ⟨dr, rdr, tdr⟩ := hR.at dt 2 tdt (rfl : h_rs 3 2 = some (302, false)) (by decide)
  have adr : h_ad z dt 2 = dr := h_ad.at rdr
  obtain ⟨rl, rrl, trl⟩ := hR.at rd 1 trd (rfl : h_rs 5 1 = some (6, false)) (by decide)
  have arl : h_ad z rd 1 = rl := h_ad.at rrl
  obtain ⟨rn, rrn, trn⟩ := hR.at rl 0 trl (rfl : h_rs 6 0 = some (600, false)) (by decide)
  have arn : h_ad z rl 0 = rn := h_ad.at rrn
  obtain ⟨ro, rro, tro⟩ := hR.at rl 1 trl (rfl : h_rs 6 1 = some (601, false)) (by decide)
  have aro : h_ad z rl 1 = ro := h_ad.at rro
  obtain ⟨rk, rrk, trk⟩ := hR.at dt 0 tdt (rfl : h_rs 3 0 = some (300, false)) (by decide)
  have ark : h_ad z dt 0 = rk := h_ad.at rrk
  rw [alw] at J1
  rw [atb] at J2
  rw [ard, atp, abk, alb, abg, atu, arg] at R_al
  rw [atp, abt, amb] at R_tp
  rw [abk] at R_ck
  rw [ard] at R_fa
  rw [alb, atx, aun, alw, ahy] at R_bk
  rw [adt, adr] at R_dr
  rw [adt] at R_tb
  refine lv_aload_n hx hb dL_law_984 rfl (lv_at hl 2 rfl) ?_
  refine lv_aload_n hx hb dL_law_985 rfl (lv_at hl 3 rfl) ?_
  refine lv_iload_n hx hb dL_law_986 rfl (lv_at hl 0 rfl) ?_
  refine lv_iconst (v := 1) hx hb dL_law_987 (by decide) ?_
  refine lv_iadd hx hb dL_law_988 ?_
  refine lv_topi (fun v1 ev1 => ?_)
  refine va_sld hx hb hSc hbl hbA g.2.1 (h_ix hi0 hi8 hL ev1 (k := 1) (by decide) (by decide) (by decide)) dL_law_989 ?_
  refine lv_topi (fun v2 ev2 => ?_)
  refine vp_callSi (W.runV (As := [.int v2]) (rest := []) ⟨hx, hb, hml, hown, hts⟩ (tX11_ringed l E X A z I0 L0 cp tcp v2 (v2.toInt) rfl) (cwV 1 hts gL_law_X11_ringed rfl rfl rfl (by decide +kernel) ⟨Nat.le_of_ble_eq_true rfl, Nat.le_of_ble_eq_true rfl⟩) ⟨h_blind _ _ _ _ _ _ _, h_recv g tcp (by decide) so_12 (q := (RX11, TX11, 8)) rfl, h_pre _ hE hk hX hA hI hR g⟩ rfl rfl hl.1 rfl (lv_room (Nat.le_of_ble_eq_true rfl)) dL_law_990 ⟨show cells + 0 ≤ 600000 by omega, show slots + 0 ≤ 7302250 by omega⟩) (fun rh3 h3 => ?_)
  refine lv_pop hx hb dL_law_993 rfl ?_
  refine lv_aload_n hx hb dL_law_994 rfl (lv_at hl 1 rfl) ?_
  refine lv_aload_n hx hb dL_law_995 rfl (lv_at hl 3 rfl) ?_
  refine lv_iload_n hx hb dL_law_996 rfl (lv_at hl 0 rfl) ?_
  refine lv_iconst (v := 1) hx hb dL_law_997 (by decide) ?_
  refine lv_iadd hx hb dL_law_998 ?_
  refine lv_topi (fun v4 ev4 => ?_)
  refine va_sld hx hb hSc hbl hbA g.2.1 (h_ix hi0 hi8 hL ev4 (k := 1) (by decide) (by decide) (by decide)) dL_law_999 ?_
  refine xw_i (v := v2) (by rw [show v4 = v1 from ev4.trans ev1.symm]; exact ev2.symm) ?_
  refine vp_callSi (W.runV (As := [.int v2]) (rest := []) ⟨hx, hb, hml, hown, hts⟩ (tX12_ringed l E X A z I0 L0 mo tmo v2 (v2.toInt) rfl) (cwV 1 hts gL_law_X12_ringed rfl rfl rfl (by decide +kernel) ⟨Nat.le_of_ble_eq_true rfl, Nat.le_of_ble_eq_true rfl⟩) ⟨h_blind _ _ _ _ _ _ _, h_recv g tmo (by decide) so_13 (q := (RX12, TX12, 51)) rfl, h_pre _ hE hk hX hA hI hR g⟩ rfl rfl hl.1 rfl (lv_room (Nat.le_of_ble_eq_true rfl)) dL_law_1000 ⟨show cells + 0 ≤ 600000 by omega, show slots + 0 ≤ 7302250 by omega⟩) (fun rh6 h6 => ?_)
  refine lv_pop hx hb dL_law_1003 rfl ?_
  refine lv_goto (tgt := 1241) hx hb dL_law_1004 (by decide) ?_
  exact W.widen (by omega) (by omega) (kk z I0 L0 _ _ _ ⟨g, hI, hR, tcp, tmo, by rw [alw]; exact J1, by unfold h_J2; rw [atb]; exact J2, hU, by rw [ard, atp, abk, alb, abg, atu, arg]; exact R_al, by rw [atp, abt, amb]; exact R_tp, by rw [abk]; exact R_ck, by rw [ard]; exact R_fa, by rw [alb, atx, aun, alw, ahy]; exact R_bk, by rw [adt, adr]; exact R_dr, by rw [adt]; exact R_tb, by exact R_gb⟩ hl)
set_option maxHeartbeats 8000000 in
set_option maxRecDepth 100000 in
theorem law_23 {p : Program} {l : Launch} {e : Env} {s : State} {m : MethodId} {below : List Frame} {meth : Method} {c : Code} {b L : Nat} {xs : Nat → Int32} (C0 : lw_At p s m meth c b L xs) (hL : L ≤ 4096) {A : Nat → Prop} (hAe : (fun q : Nat => s.heap.size ≤ q) = A) {E : tE} {X : tX} (hk : h_Kr X s) (hX : h_S X A s s.heap) {i : Int32} (hi0 : 0 ≤ i.toInt) (hi8 : i.toInt + 8 ≤ L) {cp mo : Nat} {cells slots : Nat} (hcl : cells ≤ 500000) (hsl : slots ≤ 7000000) {z : tZ} {I0 : tI} {L0 : tL} {H : Heap} {locs : List Loc} {ls : Array Slot} (T : h_T E A s z I0 L0 H locs cp mo) (hl : lv_has ls 4 [(3, .int i), (2, .ref mo), (1, .ref cp), (0, .ref b)]) (kk : ∀ (z : tZ) (I0 : tI) (L0 : tL) (H : Heap) (locs : List Loc) (ls : Array Slot), h_T E A s z I0 L0 H locs cp mo → lv_has ls 4 [(3, .int i), (2, .ref mo), (1, .ref cp), (0, .ref b)] → W p l e room_1 s m #[Value.ref b] below meth c H locs (cells + 3) (slots + 17) (lw_Z below #[Value.ref b] s) (F0 m 1241 ls [])) : W p l e room_1 s m #[Value.ref b] below meth c H locs cells slots (lw_Z below #[Value.ref b] s) (F0 m 1007 ls []) := by
  obtain ⟨hx, hb, hr, hml, hown, hts0, hSc, hbl, hlocks, hgv⟩ := id C0
  have hE := xs_E hts0
  have hts : ∀ w ∈ wsL_law, w.before #[Value.ref b] s = true := fun w h => hts0 w (wsL_law_in w h)
  have hA : ∀ q : Nat, s.heap.size ≤ q → A q := fun q h => by rw [← hAe]; exact h
  have hbA : ¬ A b := by rw [← hAe]; exact Nat.not_le.mpr hbl
  obtain ⟨g, hI, hR, tcp, tmo, J1, J2, hU, R_al, R_tp, R_ck, R_fa, R_bk, R_dr, R_tb, R_gb⟩ := T
  unfold h_J2 at J2
  obtain ⟨lw, rlw, tlw⟩ := hR.at mo 10 tmo (rfl : h_rs 13 10 = some (1310, false)) (by decide)
  have alw : h_ad z mo 10 = lw := h_ad.at rlw
  obtain ⟨tb, rtb, ttb⟩ := hR.at mo 32 tmo (rfl : h_rs 13 32 = some (1332, false)) (by decide)
  have atb : h_ad z mo 32 = tb := h_ad.at rtb
  obtain ⟨rd, rrd, trd⟩ := hR.at cp 2 tcp (rfl : h_rs 12 2 = some (5, false)) (by decide)
  have ard : h_ad z cp 2 = rd := h_ad.at rrd
  obtain ⟨tp, rtp, ttp⟩ := hR.at cp 0 tcp (rfl : h_rs 12 0 = some (9, false)) (by decide)
  have atp : h_ad z cp 0 = tp := h_ad.at rtp
  obtain ⟨bk, rbk, tbk⟩ := hR.at cp 3 tcp (rfl : h_rs 12 3 = some (1, false)) (by decide)
  have abk : h_ad z cp 3 = bk := h_ad.at rbk
  obtain ⟨lb, rlb, tlb⟩ := hR.at cp 1 tcp (rfl : h_rs 12 1 = some (4, false)) (by decide)
  have alb : h_ad z cp 1 = lb := h_ad.at rlb
  obtain ⟨bg, rbg, tbg⟩ := hR.at cp 5 tcp (rfl : h_rs 12 5 = some (10, false)) (by decide)
  have abg : h_ad z cp 5 = bg := h_ad.at rbg
  obtain ⟨tu, rtu, ttu⟩ := hR.at cp 4 tcp (rfl : h_rs 12 4 = some (11, false)) (by decide)
  have atu : h_ad z cp 4 = tu := h_ad.at rtu
  obtain ⟨rg, rrg, trg⟩ := hR.at cp 6 tcp (rfl : h_rs 12 6 = some (8, false)) (by decide)
  have arg : h_ad z cp 6 = rg := h_ad.at rrg
  obtain ⟨bt, rbt, tbt⟩ := hR.at tp 0 ttp (rfl : h_rs 9 0 = some (900, false)) (by decide)
  have abt : h_ad z tp 0 = bt := h_ad.at rbt
  obtain ⟨mb, rmb, tmb⟩ := hR.at mo 0 tmo (rfl : h_rs 13 0 = some (1300, false)) (by decide)
  have amb : h_ad z mo 0 = mb := h_ad.at rmb
  obtain ⟨tx, rtx, ttx⟩ := hR.at lb 1 tlb (rfl : h_rs 4 1 = some (401, false)) (by decide)
  have atx : h_ad z lb 1 = tx := h_ad.at rtx
  obtain ⟨un, run, tun⟩ := hR.at lb 0 tlb (rfl : h_rs 4 0 = some (6, false)) (by decide)
  have aun : h_ad z lb 0 = un := h_ad.at run
  obtain ⟨hy, rhy, thy⟩ := hR.at mo 11 tmo (rfl : h_rs 13 11 = some (1311, false)) (by decide)
  have ahy : h_ad z mo 11 = hy := h_ad.at rhy
  obtain ⟨dt, rdt, tdt⟩ := hR.at cp 7 tcp (rfl : h_rs 12 7 = some (3, false)) (by decide)
  have adt : h_ad z cp 7 = dt := h_ad.at rdt
  obtain ⟨dr, rdr, tdr⟩ := hR.at dt 2 tdt (rfl : h_rs 3 2 = some (302, false)) (by decide)
  have adr : h_ad z dt 2 = dr := h_ad.at rdr
  obtain ⟨rl, rrl, trl⟩ := hR.at rd 1 trd (rfl : h_rs 5 1 = some (6, false)) (by decide)
  have arl : h_ad z rd 1 = rl := h_ad.at rrl
  obtain ⟨rn, rrn, trn⟩ := hR.at rl 0 trl (rfl : h_rs 6 0 = some (600, false)) (by decide)
  have arn : h_ad z rl 0 = rn := h_ad.at rrn
  obtain ⟨ro, rro, tro⟩ := hR.at rl 1 trl (rfl : h_rs 6 1 = some (601, false)) (by decide)
  have aro : h_ad z rl 1 = ro := h_ad.at rro
  obtain ⟨rk, rrk, trk⟩ := hR.at dt 0 tdt (rfl : h_rs 3 0 = some (300, false)) (by decide)
  have ark : h_ad z dt 0 = rk := h_ad.at rrk
  rw [alw] at J1
  rw [atb] at J2
  rw [ard, atp, abk, alb, abg, atu, arg] at R_al
  rw [atp, abt, amb] at R_tp
  rw [abk] at R_ck
  rw [ard] at R_fa
  rw [alb, atx, aun, alw, ahy] at R_bk
  rw [adt, adr] at R_dr
  rw [adt] at R_tb
  refine lv_aload_n hx hb dL_law_1007 rfl (lv_at hl 2 rfl) ?_
  have hIo := hI
  refine va_calli (va_runV (As := []) (rest := []) ⟨hx, hb, hml, hown, hts⟩ (tX11_tableX l E X A z I0 L0 cp tcp) (cwV 0 hts gL_law_X11_table rfl rfl rfl (by decide +kernel) ⟨Nat.le_of_ble_eq_true rfl, Nat.le_of_ble_eq_true rfl⟩) ⟨h_blind _ _ _ _ _ _ _, h_recv g tcp (by decide) so_12 (q := (RX11, TX11, 8)) rfl, h_pre _ hE hk hX hA hI hR g⟩ rfl rfl hl.1 rfl (lv_room (Nat.le_of_ble_eq_true rfl)) dL_law_1008 ⟨show cells + 0 ≤ 600000 by omega, show slots + 0 ≤ 7302250 by omega⟩) g.2.1 (fun q _ h => h) (fun q h => h) (fun rh1 I2 t H1 locs ht hvm h1 hB hz1 hk1 hS => ?_)
  obtain ⟨hI, fh1, h1⟩ := h1
  replace J1 : h_J1 (I2 lw) := by rw [show I2 lw = I0 lw from funext (fun k => fh1.at tlw rfl)]; exact J1
  rw [← fh1.at tmo rfl, show I0 tb = I2 tb from funext (fun k => (fh1.at ttb rfl).symm)] at J2
  have oR_al := R_al
  have oR_tp := R_tp
  have oR_ck := R_ck
  have oR_fa := R_fa
  have oR_bk := R_bk
  have oR_dr := R_dr
  have oR_tb := R_tb
  have oR_gb := R_gb
  skip
  replace R_ck : I2 bk 3 = I2 mo 12 := by rw [show I2 bk 3 = I0 bk 3 from fh1.at tbk rfl, show I2 mo 12 = I0 mo 12 from fh1.at tmo rfl]; exact R_ck
  replace R_fa : I2 rd 2 = I2 mo 8 ∧ I2 rd 3 = I2 mo 9 := by rw [show I2 rd 2 = I0 rd 2 from fh1.at trd rfl, show I2 rd 3 = I0 rd 3 from fh1.at trd rfl, show I2 mo 8 = I0 mo 8 from fh1.at tmo rfl, show I2 mo 9 = I0 mo 9 from fh1.at tmo rfl]; exact R_fa
  replace R_bk : h_bk z I2 tx un lw hy := R_bk.F hR ttx tun tlw thy fh1 (fun _ => rfl) (fun _ => rfl) (fun _ => rfl) (fun _ => rfl) (fun _ => rfl)
  replace R_dr : (I2 dr (I2 mo 12).toInt.toNat).toInt = (I2 mo 31).toInt ∧ ∀ k : Nat, (I2 mo 12).toInt < (k : Int) → I2 dr k = 0 := by rw [show I2 dr = I0 dr from funext (fun k => fh1.at tdr rfl), show I2 mo 12 = I0 mo 12 from fh1.at tmo rfl, show I2 mo 31 = I0 mo 31 from fh1.at tmo rfl]; exact R_dr
  have pP := h1.1
  rw [atp, abt, abk, adt, adr, ark] at pP
  have pS := h1.2
  rw [atp] at pS
  have m1 : I2 mo 1 = I0 mo 1 := fh1.at tmo rfl
  have m30 : I2 mo 30 = I0 mo 30 := fh1.at tmo rfl
  have m31 : I2 mo 31 = I0 mo 31 := fh1.at tmo rfl
  have mb1 : I2 mb = I0 mb := funext (fun k => fh1.at tmb rfl)
  have b1 : I2 bt = I0 bt := funext (fun k => fh1.at tbt rfl)
  have oTP := oR_tp
  have oCK := oR_ck
  have oDR := oR_dr
  have gck : I0 (h_ad z cp 3) 3 = I0 mo 12 := by rw [abk]; exact oR_ck
  have gI := hIo
  have gdr : (I0 (h_ad z (h_ad z cp 7) 2) (I0 mo 12).toInt.toNat).toInt = (I0 mo 31).toInt ∧ ∀ k : Nat, (I0 mo 12).toInt < (k : Int) → I0 (h_ad z (h_ad z cp 7) 2) k = 0 := by rw [adt, adr]; exact oR_dr
  have gtb : I0 (h_ad z cp 7) 1 = I0 mo 30 := by rw [adt]; exact oR_tb
  have gtp : I0 (h_ad z cp 0) 1 = I0 mo 1 ∧ I0 (h_ad z (h_ad z cp 0) 0) = I0 (h_ad z mo 0) := by rw [atp, abt, amb]; exact oR_tp
  have gP := h1.1
  have gF := fh1
  have ger : h_er z I0 I2 := fun a h9 => fh1.ref (by decide) rfl h9
  replace g := h_after g hB ht hS
  generalize H1 = H at g
  clear hB hk1 hz1 ht hvm hS
  refine lv_pop hx hb dL_law_1011 rfl ?_
  refine lv_aload_n hx hb dL_law_1012 rfl (lv_at hl 1 rfl) ?_
  have hIo := hI
  refine va_calli (va_runV (As := []) (rest := []) ⟨hx, hb, hml, hown, hts⟩ (tX12_tableX l E X A z I2 L0 mo tmo) (cwV 0 hts gL_law_X12_table rfl rfl rfl (by decide +kernel) ⟨Nat.le_of_ble_eq_true rfl, Nat.le_of_ble_eq_true rfl⟩) ⟨h_blind _ _ _ _ _ _ _, h_recv g tmo (by decide) so_13 (q := (RX12, TX12, 51)) rfl, h_pre _ hE hk hX hA hI hR g⟩ rfl rfl hl.1 rfl (lv_room (Nat.le_of_ble_eq_true rfl)) dL_law_1013 ⟨show cells + 0 ≤ 600000 by omega, show slots + 0 ≤ 7302250 by omega⟩) g.2.1 (fun q _ h => h) (fun q h => h) (fun rh3 I4 t H1 locs ht hvm h3 hB hz1 hk1 hS => ?_)
  obtain ⟨hI, fh3, h3⟩ := h3
  have ph3 := h3
  rw [atb, amb] at ph3
  replace J1 : h_J1 (I4 lw) := by rw [show I4 lw = I2 lw from funext (fun k => fh3.at tlw rfl)]; exact J1
  replace J2 := h_tabJ J2 ph3.1
  have oR_al := R_al
  have oR_tp := R_tp
  have oR_ck := R_ck
  have oR_fa := R_fa
  have oR_bk := R_bk
  have oR_dr := R_dr
  have oR_tb := R_tb
  have oR_gb := R_gb
  skip
  replace R_ck : I4 bk 3 = I4 mo 12 := by rw [show I4 bk 3 = I2 bk 3 from fh3.at tbk rfl, show I4 mo 12 = I2 mo 12 from fh3.at tmo rfl]; exact R_ck
  replace R_fa : I4 rd 2 = I4 mo 8 ∧ I4 rd 3 = I4 mo 9 := by rw [show I4 rd 2 = I2 rd 2 from fh3.at trd rfl, show I4 rd 3 = I2 rd 3 from fh3.at trd rfl, show I4 mo 8 = I2 mo 8 from fh3.at tmo rfl, show I4 mo 9 = I2 mo 9 from fh3.at tmo rfl]; exact R_fa
  replace R_bk : h_bk z I4 tx un lw hy := R_bk.F hR ttx tun tlw thy fh3 (fun _ => rfl) (fun _ => rfl) (fun _ => rfl) (fun _ => rfl) (fun _ => rfl)
  replace R_dr : (I4 dr (I4 mo 12).toInt.toNat).toInt = (I4 mo 31).toInt ∧ ∀ k : Nat, (I4 mo 12).toInt < (k : Int) → I4 dr k = 0 := by rw [show I4 dr = I2 dr from funext (fun k => fh3.at tdr rfl), show I4 mo 12 = I2 mo 12 from fh3.at tmo rfl, show I4 mo 31 = I2 mo 31 from fh3.at tmo rfl]; exact R_dr
  replace R_tb := h_tab2 oTP oCK oDR.1 R_tb pP m1 m30 m31 mb1 ph3.1 (fh3.at tdt rfl)
  replace R_tp : I4 tp 1 = I4 mo 1 ∧ I4 bt = I4 mb := ⟨xi_of (by rw [show I4 tp 1 = I2 tp 1 from fh3.at ttp rfl, pS, ph3.2]), (funext (fun k => fh3.at tbt rfl)).trans (b1.trans (R_tp.2.trans (mb1.symm.trans (funext (fun k => fh3.at tmb rfl)).symm)))⟩
  replace R_gb := g_table2 R_gb hU hR gI tcp tmo gck gtp gdr gtb gP gF h3.1 fh3
  replace g := h_after g hB ht hS
  generalize H1 = H at g
  clear hB hk1 hz1 ht hvm hS
  refine lv_pop hx hb dL_law_1016 rfl ?_
  refine lv_goto (tgt := 1241) hx hb dL_law_1017 (by decide) ?_
  exact W.widen (by omega) (by omega) (kk z I4 L0 _ _ _ ⟨g, hI, hR, tcp, tmo, by rw [alw]; exact J1, by unfold h_J2; rw [atb]; exact J2, hU, by rw [ard, atp, abk, alb, abg, atu, arg]; exact R_al, by rw [atp, abt, amb]; exact R_tp, by rw [abk]; exact R_ck, by rw [ard]; exact R_fa, by rw [alb, atx, aun, alw, ahy]; exact R_bk, by rw [adt, adr]; exact R_dr, by rw [adt]; exact R_tb, by exact R_gb⟩ hl)

