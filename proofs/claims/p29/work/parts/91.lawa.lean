set_option maxHeartbeats 8000000 in
set_option maxRecDepth 100000 in
theorem law_0 {p : Program} {l : Launch} {e : Env} {s : State} {m : MethodId} {below : List Frame} {meth : Method} {c : Code} {b L : Nat} {xs : Nat → Int32} (C0 : lw_At p s m meth c b L xs) (hL : L ≤ 4096) {A : Nat → Prop} (hAe : (fun q : Nat => s.heap.size ≤ q) = A) {E : tE} {X : tX} (hk : h_Kr X s) (hX : h_S X A s s.heap) {i : Int32} (hi0 : 0 ≤ i.toInt) (hi8 : i.toInt + 8 ≤ L) {cp mo : Nat} {cells slots : Nat} (hcl : cells ≤ 500000) (hsl : slots ≤ 7000000) {z : tZ} {I0 : tI} {L0 : tL} {H : Heap} {locs : List Loc} {ls : Array Slot} (T : h_T E A s z I0 L0 H locs cp mo) (hl : lv_has ls 4 [(3, .int i), (2, .ref mo), (1, .ref cp), (0, .ref b)]) (kk : ∀ (z : tZ) (I0 : tI) (L0 : tL) (H : Heap) (locs : List Loc) (ls : Array Slot), h_T E A s z I0 L0 H locs cp mo → lv_has ls 4 [(3, .int i), (2, .ref mo), (1, .ref cp), (0, .ref b)] → W p l e room_1 s m #[Value.ref b] below meth c H locs (cells + 3) (slots + 17) (lw_Z below #[Value.ref b] s) (F0 m 1241 ls [])) : W p l e room_1 s m #[Value.ref b] below meth c H locs cells slots (lw_Z below #[Value.ref b] s) (F0 m 172 ls []) := by
  obtain ⟨hx, hb, hr, hml, hown, hts0, hSc, hbl, hlocks, hgv⟩ := id C0
  have hE := xs_E hts0
  have hts : ∀ w ∈ wsL_law, w.before #[Value.ref b] s = true := fun w h => hts0 w (wsL_law_in w h)
  have hA : ∀ q : Nat, s.heap.size ≤ q → A q := fun q h => by rw [← hAe]; exact h
  have hbA : ¬ A b := by rw [← hAe]; exact Nat.not_le.mpr hbl
  obtain ⟨g, hI, hR, tcp, tmo, J1, J2, hU, R_al, R_tp, R_ck, R_fa, R_bk, R_dr, R_tb, R_gb⟩ := T
  unfold h_J2 at J2
  obtain ⟨lw, rlw, tlw⟩ := hR.at mo 10 tmo (rfl : h_rs 13 10 = some (1310, false)) (by decide)
  have alw : h_ad z mo 10 = lw := h_ad.at rlw
  obtain ⟨tb, rtb, ttb⟩ := hR.at mo 32 tmo (rfl : h_rs 13 32 = some (1332, false)) (by decide)
  have atb : h_ad z mo 32 = tb := h_ad.at rtb
  obtain ⟨rd, rrd, trd⟩ := hR.at cp 2 tcp (rfl : h_rs 12 2 = some (5, false)) (by decide)
  have ard : h_ad z cp 2 = rd := h_ad.at rrd
  obtain ⟨tp, rtp, ttp⟩ := hR.at cp 0 tcp (rfl : h_rs 12 0 = some (9, false)) (by decide)
  have atp : h_ad z cp 0 = tp := h_ad.at rtp
  obtain ⟨bk, rbk, tbk⟩ := hR.at cp 3 tcp (rfl : h_rs 12 3 = some (1, false)) (by decide)
  have abk : h_ad z cp 3 = bk := h_ad.at rbk
  obtain ⟨lb, rlb, tlb⟩ := hR.at cp 1 tcp (rfl : h_rs 12 1 = some (4, false)) (by decide)
  have alb : h_ad z cp 1 = lb := h_ad.at rlb
  obtain ⟨bg, rbg, tbg⟩ := hR.at cp 5 tcp (rfl : h_rs 12 5 = some (10, false)) (by decide)
  have abg : h_ad z cp 5 = bg := h_ad.at rbg
  obtain ⟨tu, rtu, ttu⟩ := hR.at cp 4 tcp (rfl : h_rs 12 4 = some (11, false)) (by decide)
  have atu : h_ad z cp 4 = tu := h_ad.at rtu
  obtain ⟨rg, rrg, trg⟩ := hR.at cp 6 tcp (rfl : h_rs 12 6 = some (8, false)) (by decide)
  have arg : h_ad z cp 6 = rg := h_ad.at rrg
  obtain ⟨bt, rbt, tbt⟩ := hR.at tp 0 ttp (rfl : h_rs 9 0 = some (900, false)) (by decide)
  have abt : h_ad z tp 0 = bt := h_ad.at rbt
  obtain ⟨mb, rmb, tmb⟩ := hR.at mo 0 tmo (rfl : h_rs 13 0 = some (1300, false)) (by decide)
  have amb : h_ad z mo 0 = mb := h_ad.at rmb
  obtain ⟨tx, rtx, ttx⟩ := hR.at lb 1 tlb (rfl : h_rs 4 1 = some (401, false)) (by decide)
  have atx : h_ad z lb 1 = tx := h_ad.at rtx
  obtain ⟨un, run, tun⟩ := hR.at lb 0 tlb (rfl : h_rs 4 0 = some (6, false)) (by decide)
  have aun : h_ad z lb 0 = un := h_ad.at run
  obtain ⟨hy, rhy, thy⟩ := hR.at mo 11 tmo (rfl : h_rs 13 11 = some (1311, false)) (by decide)
  have ahy : h_ad z mo 11 = hy := h_ad.at rhy
  obtain ⟨dt, rdt, tdt⟩ := hR.at cp 7 tcp (rfl : h_rs 12 7 = some (3, false)) (by decide)
  have adt : h_ad z cp 7 = dt := h_ad.at rdt
  obtain ⟨dr, rdr, tdr⟩ := hR.at dt 2 tdt (rfl : h_rs 3 2 = some (302, false)) (by decide)
  have adr : h_ad z dt 2 = dr := h_ad.at rdr
  obtain ⟨rl, rrl, trl⟩ := hR.at rd 1 trd (rfl : h_rs 5 1 = some (6, false)) (by decide)
  have arl : h_ad z rd 1 = rl := h_ad.at rrl
  obtain ⟨rn, rrn, trn⟩ := hR.at rl 0 trl (rfl : h_rs 6 0 = some (600, false)) (by decide)
  have arn : h_ad z rl 0 = rn := h_ad.at rrn
  obtain ⟨ro, rro, tro⟩ := hR.at rl 1 trl (rfl : h_rs 6 1 = some (601, false)) (by decide)
  have aro : h_ad z rl 1 = ro := h_ad.at rro
  obtain ⟨rk, rrk, trk⟩ := hR.at dt 0 tdt (rfl : h_rs 3 0 = some (300, false)) (by decide)
  have ark : h_ad z dt 0 = rk := h_ad.at rrk
  rw [alw] at J1
  rw [atb] at J2
  rw [ard, atp, abk, alb, abg, atu, arg] at R_al
  rw [atp, abt, amb] at R_tp
  rw [abk] at R_ck
  rw [ard] at R_fa
  rw [alb, atx, aun, alw, ahy] at R_bk
  rw [adt, adr] at R_dr
  rw [adt] at R_tb
  refine lv_aload_n hx hb dL_law_172 rfl (lv_at hl 2 rfl) ?_
  refine lv_aload_n hx hb dL_law_173 rfl (lv_at hl 3 rfl) ?_
  refine lv_iload_n hx hb dL_law_174 rfl (lv_at hl 0 rfl) ?_
  refine lv_iconst (v := 1) hx hb dL_law_175 (by decide) ?_
  refine lv_iadd hx hb dL_law_176 ?_
  refine lv_topi (fun v1 ev1 => ?_)
  refine va_sld hx hb hSc hbl hbA g.2.1 (h_ix hi0 hi8 hL ev1 (k := 1) (by decide) (by decide) (by decide)) dL_law_177 ?_
  refine lv_topi (fun v2 ev2 => ?_)
  refine lv_aload_n hx hb dL_law_178 rfl (lv_at hl 3 rfl) ?_
  refine lv_iload_n hx hb dL_law_179 rfl (lv_at hl 0 rfl) ?_
  refine lv_iconst (v := 2) hx hb dL_law_180 (by decide) ?_
  refine lv_iadd hx hb dL_law_181 ?_
  refine lv_topi (fun v3 ev3 => ?_)
  refine va_sld hx hb hSc hbl hbA g.2.1 (h_ix hi0 hi8 hL ev3 (k := 2) (by decide) (by decide) (by decide)) dL_law_182 ?_
  refine lv_topi (fun v4 ev4 => ?_)
  refine lv_aload_n hx hb dL_law_183 rfl (lv_at hl 3 rfl) ?_
  refine lv_iload_n hx hb dL_law_184 rfl (lv_at hl 0 rfl) ?_
  refine lv_iconst (v := 3) hx hb dL_law_185 (by decide) ?_
  refine lv_iadd hx hb dL_law_186 ?_
  refine lv_topi (fun v5 ev5 => ?_)
  refine va_sld hx hb hSc hbl hbA g.2.1 (h_ix hi0 hi8 hL ev5 (k := 3) (by decide) (by decide) (by decide)) dL_law_187 ?_
  refine lv_topi (fun v6 ev6 => ?_)
  refine lv_aload_n hx hb dL_law_188 rfl (lv_at hl 3 rfl) ?_
  refine lv_iload_n hx hb dL_law_189 rfl (lv_at hl 0 rfl) ?_
  refine lv_iconst (v := 4) hx hb dL_law_190 (by decide) ?_
  refine lv_iadd hx hb dL_law_191 ?_
  refine lv_topi (fun v7 ev7 => ?_)
  refine va_sld hx hb hSc hbl hbA g.2.1 (h_ix hi0 hi8 hL ev7 (k := 4) (by decide) (by decide) (by decide)) dL_law_192 ?_
  refine lv_topi (fun v8 ev8 => ?_)
  refine lv_aload_n hx hb dL_law_193 rfl (lv_at hl 3 rfl) ?_
  refine lv_iload_n hx hb dL_law_194 rfl (lv_at hl 0 rfl) ?_
  refine lv_iconst (v := 5) hx hb dL_law_195 (by decide) ?_
  refine lv_iadd hx hb dL_law_196 ?_
  refine lv_topi (fun v9 ev9 => ?_)
  refine va_sld hx hb hSc hbl hbA g.2.1 (h_ix hi0 hi8 hL ev9 (k := 5) (by decide) (by decide) (by decide)) dL_law_197 ?_
  refine lv_topi (fun v10 ev10 => ?_)
  have hIo := hI
  refine va_calli (va_runV (As := [.int v2, .int v4, .int v6, .int v8, .int v10]) (rest := []) ⟨hx, hb, hml, hown, hts⟩ (tX11_feedX l E X A z I0 L0 cp tcp v2 (v2.toInt) rfl v4 (v4.toInt) rfl v6 (v6.toInt) rfl v8 (v8.toInt) rfl v10 (v10.toInt) rfl) (cwV 5 hts gL_law_X11_feed rfl rfl rfl (by decide +kernel) ⟨Nat.le_of_ble_eq_true rfl, Nat.le_of_ble_eq_true rfl⟩) ⟨h_blind _ _ _ _ _ _ _, h_recv g tcp (by decide) so_12 (q := (RX11, TX11, 8)) rfl, h_pre _ hE hk hX hA hI hR g⟩ rfl rfl hl.1 rfl (lv_room (Nat.le_of_ble_eq_true rfl)) dL_law_198 ⟨show cells + 0 ≤ 600000 by omega, show slots + 0 ≤ 7302250 by omega⟩) g.2.1 (fun q _ h => h) (fun q h => h) (fun rh11 I12 t H1 locs ht hvm h11 hB hz1 hk1 hS => ?_)
  obtain ⟨hI, fh11, h11⟩ := h11
  replace J1 : h_J1 (I12 lw) := by rw [show I12 lw = I0 lw from funext (fun k => fh11.at tlw rfl)]; exact J1
  rw [← fh11.at tmo rfl, show I0 tb = I12 tb from funext (fun k => (fh11.at ttb rfl).symm)] at J2
  have oR_al := R_al
  have oR_tp := R_tp
  have oR_ck := R_ck
  have oR_fa := R_fa
  have oR_bk := R_bk
  have oR_dr := R_dr
  have oR_tb := R_tb
  have oR_gb := R_gb
  skip
  have pP := h11
  rw [atp, abt] at pP
  have m1 : I12 mo 1 = I0 mo 1 := fh11.at tmo rfl
  have mb1 : I12 mb = I0 mb := funext (fun k => fh11.at tmb rfl)
  replace R_ck : I12 bk 3 = I12 mo 12 := by rw [show I12 bk 3 = I0 bk 3 from fh11.at tbk rfl, show I12 mo 12 = I0 mo 12 from fh11.at tmo rfl]; exact R_ck
  replace R_fa : I12 rd 2 = I12 mo 8 ∧ I12 rd 3 = I12 mo 9 := by rw [show I12 rd 2 = I0 rd 2 from fh11.at trd rfl, show I12 rd 3 = I0 rd 3 from fh11.at trd rfl, show I12 mo 8 = I0 mo 8 from fh11.at tmo rfl, show I12 mo 9 = I0 mo 9 from fh11.at tmo rfl]; exact R_fa
  replace R_bk : h_bk z I12 tx un lw hy := R_bk.F hR ttx tun tlw thy fh11 (fun _ => rfl) (fun _ => rfl) (fun _ => rfl) (fun _ => rfl) (fun _ => rfl)
  replace R_dr : (I12 dr (I12 mo 12).toInt.toNat).toInt = (I12 mo 31).toInt ∧ ∀ k : Nat, (I12 mo 12).toInt < (k : Int) → I12 dr k = 0 := by rw [show I12 dr = I0 dr from funext (fun k => fh11.at tdr rfl), show I12 mo 12 = I0 mo 12 from fh11.at tmo rfl, show I12 mo 31 = I0 mo 31 from fh11.at tmo rfl]; exact R_dr
  replace R_tb : I12 dt 1 = I12 mo 30 := by rw [show I12 dt 1 = I0 dt 1 from fh11.at tdt rfl, show I12 mo 30 = I0 mo 30 from fh11.at tmo rfl]; exact R_tb
  replace R_gb : h_gb z I12 cp mo := R_gb.F hR tcp tmo fh11 (by decide) (hIo.rd mo 13 tmo rfl (rfl : h_bd 13 13 = (0, 60))).2
  replace g := h_after g hB ht hS
  generalize H1 = H at g
  clear hB hk1 hz1 ht hvm hS
  refine lv_pop hx hb dL_law_201 rfl ?_
  refine lv_aload_n hx hb dL_law_202 rfl (lv_at hl 1 rfl) ?_
  refine lv_aload_n hx hb dL_law_203 rfl (lv_at hl 3 rfl) ?_
  refine lv_iload_n hx hb dL_law_204 rfl (lv_at hl 0 rfl) ?_
  refine lv_iconst (v := 1) hx hb dL_law_205 (by decide) ?_
  refine lv_iadd hx hb dL_law_206 ?_
  refine lv_topi (fun v13 ev13 => ?_)
  refine va_sld hx hb hSc hbl hbA g.2.1 (h_ix hi0 hi8 hL ev13 (k := 1) (by decide) (by decide) (by decide)) dL_law_207 ?_
  refine xw_i (v := v2) (by rw [show v13 = v1 from ev13.trans ev1.symm]; exact ev2.symm) ?_
  refine lv_aload_n hx hb dL_law_208 rfl (lv_at hl 3 rfl) ?_
  refine lv_iload_n hx hb dL_law_209 rfl (lv_at hl 0 rfl) ?_
  refine lv_iconst (v := 2) hx hb dL_law_210 (by decide) ?_
  refine lv_iadd hx hb dL_law_211 ?_
  refine lv_topi (fun v15 ev15 => ?_)
  refine va_sld hx hb hSc hbl hbA g.2.1 (h_ix hi0 hi8 hL ev15 (k := 2) (by decide) (by decide) (by decide)) dL_law_212 ?_
  refine xw_i (v := v4) (by rw [show v15 = v3 from ev15.trans ev3.symm]; exact ev4.symm) ?_
  refine lv_aload_n hx hb dL_law_213 rfl (lv_at hl 3 rfl) ?_
  refine lv_iload_n hx hb dL_law_214 rfl (lv_at hl 0 rfl) ?_
  refine lv_iconst (v := 3) hx hb dL_law_215 (by decide) ?_
  refine lv_iadd hx hb dL_law_216 ?_
  refine lv_topi (fun v17 ev17 => ?_)
  refine va_sld hx hb hSc hbl hbA g.2.1 (h_ix hi0 hi8 hL ev17 (k := 3) (by decide) (by decide) (by decide)) dL_law_217 ?_
  refine xw_i (v := v6) (by rw [show v17 = v5 from ev17.trans ev5.symm]; exact ev6.symm) ?_
  refine lv_aload_n hx hb dL_law_218 rfl (lv_at hl 3 rfl) ?_
  refine lv_iload_n hx hb dL_law_219 rfl (lv_at hl 0 rfl) ?_
  refine lv_iconst (v := 4) hx hb dL_law_220 (by decide) ?_
  refine lv_iadd hx hb dL_law_221 ?_
  refine lv_topi (fun v19 ev19 => ?_)
  refine va_sld hx hb hSc hbl hbA g.2.1 (h_ix hi0 hi8 hL ev19 (k := 4) (by decide) (by decide) (by decide)) dL_law_222 ?_
  refine xw_i (v := v8) (by rw [show v19 = v7 from ev19.trans ev7.symm]; exact ev8.symm) ?_
  refine lv_aload_n hx hb dL_law_223 rfl (lv_at hl 3 rfl) ?_
  refine lv_iload_n hx hb dL_law_224 rfl (lv_at hl 0 rfl) ?_
  refine lv_iconst (v := 5) hx hb dL_law_225 (by decide) ?_
  refine lv_iadd hx hb dL_law_226 ?_
  refine lv_topi (fun v21 ev21 => ?_)
  refine va_sld hx hb hSc hbl hbA g.2.1 (h_ix hi0 hi8 hL ev21 (k := 5) (by decide) (by decide) (by decide)) dL_law_227 ?_
  refine xw_i (v := v10) (by rw [show v21 = v9 from ev21.trans ev9.symm]; exact ev10.symm) ?_
  have hIo := hI
  refine va_calli (va_runV (As := [.int v2, .int v4, .int v6, .int v8, .int v10]) (rest := []) ⟨hx, hb, hml, hown, hts⟩ (tX12_feedX l E X A z I12 L0 mo tmo v2 (v2.toInt) rfl v4 (v4.toInt) rfl v6 (v6.toInt) rfl v8 (v8.toInt) rfl v10 (v10.toInt) rfl) (cwV 5 hts gL_law_X12_feed rfl rfl rfl (by decide +kernel) ⟨Nat.le_of_ble_eq_true rfl, Nat.le_of_ble_eq_true rfl⟩) ⟨h_blind _ _ _ _ _ _ _, h_recv g tmo (by decide) so_13 (q := (RX12, TX12, 51)) rfl, h_pre _ hE hk hX hA hI hR g⟩ rfl rfl hl.1 rfl (lv_room (Nat.le_of_ble_eq_true rfl)) dL_law_228 ⟨show cells + 0 ≤ 600000 by omega, show slots + 0 ≤ 7302250 by omega⟩) g.2.1 (fun q _ h => h) (fun q h => h) (fun rh23 I24 t H1 locs ht hvm h23 hB hz1 hk1 hS => ?_)
  obtain ⟨hI, fh23, h23⟩ := h23
  replace J1 : h_J1 (I24 lw) := by rw [show I24 lw = I12 lw from funext (fun k => fh23.at tlw rfl)]; exact J1
  rw [← fh23.at tmo rfl, show I12 tb = I24 tb from funext (fun k => (fh23.at ttb rfl).symm)] at J2
  have oR_al := R_al
  have oR_tp := R_tp
  have oR_ck := R_ck
  have oR_fa := R_fa
  have oR_bk := R_bk
  have oR_dr := R_dr
  have oR_tb := R_tb
  have oR_gb := R_gb
  skip
  rw [amb] at h23
  obtain ⟨same, Rn⟩ := h_feed2 R_tp pP m1 mb1 h23 (fh23.at ttp rfl) (funext (fun k => fh23.at tbt rfl))
  replace R_tp := Rn
  replace R_ck : I24 bk 3 = I24 mo 12 := by rw [show I24 bk 3 = I12 bk 3 from fh23.at tbk rfl, show I24 mo 12 = I12 mo 12 from fh23.at tmo rfl]; exact R_ck
  replace R_fa : I24 rd 2 = I24 mo 8 ∧ I24 rd 3 = I24 mo 9 := by rw [show I24 rd 2 = I12 rd 2 from fh23.at trd rfl, show I24 rd 3 = I12 rd 3 from fh23.at trd rfl, show I24 mo 8 = I12 mo 8 from fh23.at tmo rfl, show I24 mo 9 = I12 mo 9 from fh23.at tmo rfl]; exact R_fa
  replace R_bk : h_bk z I24 tx un lw hy := R_bk.F hR ttx tun tlw thy fh23 (fun _ => rfl) (fun _ => rfl) (fun _ => rfl) (fun _ => rfl) (fun _ => rfl)
  replace R_dr : (I24 dr (I24 mo 12).toInt.toNat).toInt = (I24 mo 31).toInt ∧ ∀ k : Nat, (I24 mo 12).toInt < (k : Int) → I24 dr k = 0 := by rw [show I24 dr = I12 dr from funext (fun k => fh23.at tdr rfl), show I24 mo 12 = I12 mo 12 from fh23.at tmo rfl, show I24 mo 31 = I12 mo 31 from fh23.at tmo rfl]; exact R_dr
  replace R_tb : I24 dt 1 = I24 mo 30 := by rw [show I24 dt 1 = I12 dt 1 from fh23.at tdt rfl, show I24 mo 30 = I12 mo 30 from fh23.at tmo rfl]; exact R_tb
  replace R_gb : h_gb z I24 cp mo := R_gb.F hR tcp tmo fh23 (by decide) (hIo.rd mo 13 tmo rfl (rfl : h_bd 13 13 = (0, 60))).2
  replace g := h_after g hB ht hS
  generalize H1 = H at g
  clear hB hk1 hz1 ht hvm hS
  refine lv_pop hx hb dL_law_231 rfl ?_
  refine lv_goto (tgt := 1241) hx hb dL_law_232 (by decide) ?_
  exact W.widen (by omega) (by omega) (kk z I24 L0 _ _ _ ⟨g, hI, hR, tcp, tmo, by rw [alw]; exact J1, by unfold h_J2; rw [atb]; exact J2, hU, by rw [ard, atp, abk, alb, abg, atu, arg]; exact R_al, by rw [atp, abt, amb]; exact R_tp, by rw [abk]; exact R_ck, by rw [ard]; exact R_fa, by rw [alb, atx, aun, alw, ahy]; exact R_bk, by rw [adt, adr]; exact R_dr, by rw [adt]; exact R_tb, by exact R_gb⟩ hl)
set_option maxHeartbeats 8000000 in
set_option maxRecDepth 100000 in
theorem law_1 {p : Program} {l : Launch} {e : Env} {s : State} {m : MethodId} {below : List Frame} {meth : Method} {c : Code} {b L : Nat} {xs : Nat → Int32} (C0 : lw_At p s m meth c b L xs) (hL : L ≤ 4096) {A : Nat → Prop} (hAe : (fun q : Nat => s.heap.size ≤ q) = A) {E : tE} {X : tX} (hk : h_Kr X s) (hX : h_S X A s s.heap) {i : Int32} (hi0 : 0 ≤ i.toInt) (hi8 : i.toInt + 8 ≤ L) {cp mo : Nat} {cells slots : Nat} (hcl : cells ≤ 500000) (hsl : slots ≤ 7000000) {z : tZ} {I0 : tI} {L0 : tL} {H : Heap} {locs : List Loc} {ls : Array Slot} (T : h_T E A s z I0 L0 H locs cp mo) (hl : lv_has ls 4 [(3, .int i), (2, .ref mo), (1, .ref cp), (0, .ref b)]) (kk : ∀ (z : tZ) (I0 : tI) (L0 : tL) (H : Heap) (locs : List Loc) (ls : Array Slot), h_T E A s z I0 L0 H locs cp mo → lv_has ls 4 [(3, .int i), (2, .ref mo), (1, .ref cp), (0, .ref b)] → W p l e room_1 s m #[Value.ref b] below meth c H locs (cells + 3) (slots + 17) (lw_Z below #[Value.ref b] s) (F0 m 1241 ls [])) : W p l e room_1 s m #[Value.ref b] below meth c H locs cells slots (lw_Z below #[Value.ref b] s) (F0 m 235 ls []) := by
  obtain ⟨hx, hb, hr, hml, hown, hts0, hSc, hbl, hlocks, hgv⟩ := id C0
  have hE := xs_E hts0
  have hts : ∀ w ∈ wsL_law, w.before #[Value.ref b] s = true := fun w h => hts0 w (wsL_law_in w h)
  have hA : ∀ q : Nat, s.heap.size ≤ q → A q := fun q h => by rw [← hAe]; exact h
  have hbA : ¬ A b := by rw [← hAe]; exact Nat.not_le.mpr hbl
  obtain ⟨g, hI, hR, tcp, tmo, J1, J2, hU, R_al, R_tp, R_ck, R_fa, R_bk, R_dr, R_tb, R_gb⟩ := T
  unfold h_J2 at J2
  obtain ⟨lw, rlw, tlw⟩ := hR.at mo 10 tmo (rfl : h_rs 13 10 = some (1310, false)) (by decide)
  have alw : h_ad z mo 10 = lw := h_ad.at rlw
  obtain ⟨tb, rtb, ttb⟩ := hR.at mo 32 tmo (rfl : h_rs 13 32 = some (1332, false)) (by decide)
  have atb : h_ad z mo 32 = tb := h_ad.at rtb
  obtain ⟨rd, rrd, trd⟩ := hR.at cp 2 tcp (rfl : h_rs 12 2 = some (5, false)) (by decide)
  have ard : h_ad z cp 2 = rd := h_ad.at rrd
  obtain ⟨tp, rtp, ttp⟩ := hR.at cp 0 tcp (rfl : h_rs 12 0 = some (9, false)) (by decide)
  have atp : h_ad z cp 0 = tp := h_ad.at rtp
  obtain ⟨bk, rbk, tbk⟩ := hR.at cp 3 tcp (rfl : h_rs 12 3 = some (1, false)) (by decide)
  have abk : h_ad z cp 3 = bk := h_ad.at rbk
  obtain ⟨lb, rlb, tlb⟩ := hR.at cp 1 tcp (rfl : h_rs 12 1 = some (4, false)) (by decide)
  have alb : h_ad z cp 1 = lb := h_ad.at rlb
  obtain ⟨bg, rbg, tbg⟩ := hR.at cp 5 tcp (rfl : h_rs 12 5 = some (10, false)) (by decide)
  have abg : h_ad z cp 5 = bg := h_ad.at rbg
  obtain ⟨tu, rtu, ttu⟩ := hR.at cp 4 tcp (rfl : h_rs 12 4 = some (11, false)) (by decide)
  have atu : h_ad z cp 4 = tu := h_ad.at rtu
  obtain ⟨rg, rrg, trg⟩ := hR.at cp 6 tcp (rfl : h_rs 12 6 = some (8, false)) (by decide)
  have arg : h_ad z cp 6 = rg := h_ad.at rrg
  obtain ⟨bt, rbt, tbt⟩ := hR.at tp 0 ttp (rfl : h_rs 9 0 = some (900, false)) (by decide)
  have abt : h_ad z tp 0 = bt := h_ad.at rbt
  obtain ⟨mb, rmb, tmb⟩ := hR.at mo 0 tmo (rfl : h_rs 13 0 = some (1300, false)) (by decide)
  have amb : h_ad z mo 0 = mb := h_ad.at rmb
  obtain ⟨tx, rtx, ttx⟩ := hR.at lb 1 tlb (rfl : h_rs 4 1 = some (401, false)) (by decide)
  have atx : h_ad z lb 1 = tx := h_ad.at rtx
  obtain ⟨un, run, tun⟩ := hR.at lb 0 tlb (rfl : h_rs 4 0 = some (6, false)) (by decide)
  have aun : h_ad z lb 0 = un := h_ad.at run
  obtain ⟨hy, rhy, thy⟩ := hR.at mo 11 tmo (rfl : h_rs 13 11 = some (1311, false)) (by decide)
  have ahy : h_ad z mo 11 = hy := h_ad.at rhy
  obtain ⟨dt, rdt, tdt⟩ := hR.at cp 7 tcp (rfl : h_rs 12 7 = some (3, false)) (by decide)
  have adt : h_ad z cp 7 = dt := h_ad.at rdt
  obtain ⟨dr, rdr, tdr⟩ := hR.at dt 2 tdt (rfl : h_rs 3 2 = some (302, false)) (by decide)
  have adr : h_ad z dt 2 = dr := h_ad.at rdr
  obtain ⟨rl, rrl, trl⟩ := hR.at rd 1 trd (rfl : h_rs 5 1 = some (6, false)) (by decide)
  have arl : h_ad z rd 1 = rl := h_ad.at rrl
  obtain ⟨rn, rrn, trn⟩ := hR.at rl 0 trl (rfl : h_rs 6 0 = some (600, false)) (by decide)
  have arn : h_ad z rl 0 = rn := h_ad.at rrn
  obtain ⟨ro, rro, tro⟩ := hR.at rl 1 trl (rfl : h_rs 6 1 = some (601, false)) (by decide)
  have aro : h_ad z rl 1 = ro := h_ad.at rro
  obtain ⟨rk, rrk, trk⟩ := hR.at dt 0 tdt (rfl : h_rs 3 0 = some (300, false)) (by decide)
  have ark : h_ad z dt 0 = rk := h_ad.at rrk
  rw [alw] at J1
  rw [atb] at J2
  rw [ard, atp, abk, alb, abg, atu, arg] at R_al
  rw [atp, abt, amb] at R_tp
  rw [abk] at R_ck
  rw [ard] at R_fa
  rw [alb, atx, aun, alw, ahy] at R_bk
  rw [adt, adr] at R_dr
  rw [adt] at R_tb
  refine lv_aload_n hx hb dL_law_235 rfl (lv_at hl 2 rfl) ?_
  refine lv_aload_n hx hb dL_law_236 rfl (lv_at hl 3 rfl) ?_
  refine lv_iload_n hx hb dL_law_237 rfl (lv_at hl 0 rfl) ?_
  refine lv_iconst (v := 1) hx hb dL_law_238 (by decide) ?_
  refine lv_iadd hx hb dL_law_239 ?_
  refine lv_topi (fun v1 ev1 => ?_)
  refine va_sld hx hb hSc hbl hbA g.2.1 (h_ix hi0 hi8 hL ev1 (k := 1) (by decide) (by decide) (by decide)) dL_law_240 ?_
  refine lv_topi (fun v2 ev2 => ?_)
  have hIo := hI
  refine va_calli (va_runV (As := [.int v2]) (rest := []) ⟨hx, hb, hml, hown, hts⟩ (tX11_endX l E X A z I0 L0 cp tcp v2 (v2.toInt) rfl) (cwV 1 hts gL_law_X11_end rfl rfl rfl (by decide +kernel) ⟨Nat.le_of_ble_eq_true rfl, Nat.le_of_ble_eq_true rfl⟩) ⟨h_blind _ _ _ _ _ _ _, h_recv g tcp (by decide) so_12 (q := (RX11, TX11, 8)) rfl, h_pre _ hE hk hX hA hI hR g⟩ rfl rfl hl.1 rfl (lv_room (Nat.le_of_ble_eq_true rfl)) dL_law_241 ⟨show cells + 0 ≤ 600000 by omega, show slots + 0 ≤ 7302250 by omega⟩) g.2.1 (fun q _ h => h) (fun q h => h) (fun rh3 I4 t H1 locs ht hvm h3 hB hz1 hk1 hS => ?_)
  obtain ⟨hI, fh3, h3⟩ := h3
  replace J1 : h_J1 (I4 lw) := by rw [show I4 lw = I0 lw from funext (fun k => fh3.at tlw rfl)]; exact J1
  rw [← fh3.at tmo rfl, show I0 tb = I4 tb from funext (fun k => (fh3.at ttb rfl).symm)] at J2
  have oR_al := R_al
  have oR_tp := R_tp
  have oR_ck := R_ck
  have oR_fa := R_fa
  have oR_bk := R_bk
  have oR_dr := R_dr
  have oR_tb := R_tb
  have oR_gb := R_gb
  skip
  have pP := h3
  rw [atp] at pP
  have m1 : I4 mo 1 = I0 mo 1 := fh3.at tmo rfl
  have mb1 : I4 mb = I0 mb := funext (fun k => fh3.at tmb rfl)
  have b1 : I4 bt = I0 bt := funext (fun k => fh3.at tbt rfl)
  replace R_ck : I4 bk 3 = I4 mo 12 := by rw [show I4 bk 3 = I0 bk 3 from fh3.at tbk rfl, show I4 mo 12 = I0 mo 12 from fh3.at tmo rfl]; exact R_ck
  replace R_fa : I4 rd 2 = I4 mo 8 ∧ I4 rd 3 = I4 mo 9 := by rw [show I4 rd 2 = I0 rd 2 from fh3.at trd rfl, show I4 rd 3 = I0 rd 3 from fh3.at trd rfl, show I4 mo 8 = I0 mo 8 from fh3.at tmo rfl, show I4 mo 9 = I0 mo 9 from fh3.at tmo rfl]; exact R_fa
  replace R_bk : h_bk z I4 tx un lw hy := R_bk.F hR ttx tun tlw thy fh3 (fun _ => rfl) (fun _ => rfl) (fun _ => rfl) (fun _ => rfl) (fun _ => rfl)
  replace R_dr : (I4 dr (I4 mo 12).toInt.toNat).toInt = (I4 mo 31).toInt ∧ ∀ k : Nat, (I4 mo 12).toInt < (k : Int) → I4 dr k = 0 := by rw [show I4 dr = I0 dr from funext (fun k => fh3.at tdr rfl), show I4 mo 12 = I0 mo 12 from fh3.at tmo rfl, show I4 mo 31 = I0 mo 31 from fh3.at tmo rfl]; exact R_dr
  replace R_tb : I4 dt 1 = I4 mo 30 := by rw [show I4 dt 1 = I0 dt 1 from fh3.at tdt rfl, show I4 mo 30 = I0 mo 30 from fh3.at tmo rfl]; exact R_tb
  replace R_gb : h_gb z I4 cp mo := R_gb.F hR tcp tmo fh3 (by decide) (hIo.rd mo 13 tmo rfl (rfl : h_bd 13 13 = (0, 60))).2
  replace g := h_after g hB ht hS
  generalize H1 = H at g
  clear hB hk1 hz1 ht hvm hS
  refine lv_pop hx hb dL_law_244 rfl ?_
  refine lv_aload_n hx hb dL_law_245 rfl (lv_at hl 1 rfl) ?_
  refine lv_aload_n hx hb dL_law_246 rfl (lv_at hl 3 rfl) ?_
  refine lv_iload_n hx hb dL_law_247 rfl (lv_at hl 0 rfl) ?_
  refine lv_iconst (v := 1) hx hb dL_law_248 (by decide) ?_
  refine lv_iadd hx hb dL_law_249 ?_
  refine lv_topi (fun v5 ev5 => ?_)
  refine va_sld hx hb hSc hbl hbA g.2.1 (h_ix hi0 hi8 hL ev5 (k := 1) (by decide) (by decide) (by decide)) dL_law_250 ?_
  refine xw_i (v := v2) (by rw [show v5 = v1 from ev5.trans ev1.symm]; exact ev2.symm) ?_
  have hIo := hI
  refine va_calli (va_runV (As := [.int v2]) (rest := []) ⟨hx, hb, hml, hown, hts⟩ (tX12_endX l E X A z I4 L0 mo tmo v2 (v2.toInt) rfl) (cwV 1 hts gL_law_X12_end rfl rfl rfl (by decide +kernel) ⟨Nat.le_of_ble_eq_true rfl, Nat.le_of_ble_eq_true rfl⟩) ⟨h_blind _ _ _ _ _ _ _, h_recv g tmo (by decide) so_13 (q := (RX12, TX12, 51)) rfl, h_pre _ hE hk hX hA hI hR g⟩ rfl rfl hl.1 rfl (lv_room (Nat.le_of_ble_eq_true rfl)) dL_law_251 ⟨show cells + 0 ≤ 600000 by omega, show slots + 0 ≤ 7302250 by omega⟩) g.2.1 (fun q _ h => h) (fun q h => h) (fun rh7 I8 t H1 locs ht hvm h7 hB hz1 hk1 hS => ?_)
  obtain ⟨hI, fh7, h7⟩ := h7
  replace J1 : h_J1 (I8 lw) := by rw [show I8 lw = I4 lw from funext (fun k => fh7.at tlw rfl)]; exact J1
  rw [← fh7.at tmo rfl, show I4 tb = I8 tb from funext (fun k => (fh7.at ttb rfl).symm)] at J2
  have oR_al := R_al
  have oR_tp := R_tp
  have oR_ck := R_ck
  have oR_fa := R_fa
  have oR_bk := R_bk
  have oR_dr := R_dr
  have oR_tb := R_tb
  have oR_gb := R_gb
  skip
  obtain ⟨same, Rn⟩ := h_end2 R_tp pP m1 h7 (fh7.at ttp rfl) ((funext (fun k => fh7.at tbt rfl)).trans b1) ((funext (fun k => fh7.at tmb rfl)).trans mb1)
  replace R_tp := Rn
  replace R_ck : I8 bk 3 = I8 mo 12 := by rw [show I8 bk 3 = I4 bk 3 from fh7.at tbk rfl, show I8 mo 12 = I4 mo 12 from fh7.at tmo rfl]; exact R_ck
  replace R_fa : I8 rd 2 = I8 mo 8 ∧ I8 rd 3 = I8 mo 9 := by rw [show I8 rd 2 = I4 rd 2 from fh7.at trd rfl, show I8 rd 3 = I4 rd 3 from fh7.at trd rfl, show I8 mo 8 = I4 mo 8 from fh7.at tmo rfl, show I8 mo 9 = I4 mo 9 from fh7.at tmo rfl]; exact R_fa
  replace R_bk : h_bk z I8 tx un lw hy := R_bk.F hR ttx tun tlw thy fh7 (fun _ => rfl) (fun _ => rfl) (fun _ => rfl) (fun _ => rfl) (fun _ => rfl)
  replace R_dr : (I8 dr (I8 mo 12).toInt.toNat).toInt = (I8 mo 31).toInt ∧ ∀ k : Nat, (I8 mo 12).toInt < (k : Int) → I8 dr k = 0 := by rw [show I8 dr = I4 dr from funext (fun k => fh7.at tdr rfl), show I8 mo 12 = I4 mo 12 from fh7.at tmo rfl, show I8 mo 31 = I4 mo 31 from fh7.at tmo rfl]; exact R_dr
  replace R_tb : I8 dt 1 = I8 mo 30 := by rw [show I8 dt 1 = I4 dt 1 from fh7.at tdt rfl, show I8 mo 30 = I4 mo 30 from fh7.at tmo rfl]; exact R_tb
  replace R_gb : h_gb z I8 cp mo := R_gb.F hR tcp tmo fh7 (by decide) (hIo.rd mo 13 tmo rfl (rfl : h_bd 13 13 = (0, 60))).2
  replace g := h_after g hB ht hS
  generalize H1 = H at g
  clear hB hk1 hz1 ht hvm hS
  refine lv_pop hx hb dL_law_254 rfl ?_
  refine lv_goto (tgt := 1241) hx hb dL_law_255 (by decide) ?_
  exact W.widen (by omega) (by omega) (kk z I8 L0 _ _ _ ⟨g, hI, hR, tcp, tmo, by rw [alw]; exact J1, by unfold h_J2; rw [atb]; exact J2, hU, by rw [ard, atp, abk, alb, abg, atu, arg]; exact R_al, by rw [atp, abt, amb]; exact R_tp, by rw [abk]; exact R_ck, by rw [ard]; exact R_fa, by rw [alb, atx, aun, alw, ahy]; exact R_bk, by rw [adt, adr]; exact R_dr, by rw [adt]; exact R_tb, by exact R_gb⟩ hl)
set_option maxHeartbeats 8000000 in
set_option maxRecDepth 100000 in
theorem law_2 {p : Program} {l : Launch} {e : Env} {s : State} {m : MethodId} {below : List Frame} {meth : Method} {c : Code} {b L : Nat} {xs : Nat → Int32} (C0 : lw_At p s m meth c b L xs) (hL : L ≤ 4096) {A : Nat → Prop} (hAe : (fun q : Nat => s.heap.size ≤ q) = A) {E : tE} {X : tX} (hk : h_Kr X s) (hX : h_S X A s s.heap) {i : Int32} (hi0 : 0 ≤ i.toInt) (hi8 : i.toInt + 8 ≤ L) {cp mo : Nat} {cells slots : Nat} (hcl : cells ≤ 500000) (hsl : slots ≤ 7000000) {z : tZ} {I0 : tI} {L0 : tL} {H : Heap} {locs : List Loc} {ls : Array Slot} (T : h_T E A s z I0 L0 H locs cp mo) (hl : lv_has ls 4 [(3, .int i), (2, .ref mo), (1, .ref cp), (0, .ref b)]) (kk : ∀ (z : tZ) (I0 : tI) (L0 : tL) (H : Heap) (locs : List Loc) (ls : Array Slot), h_T E A s z I0 L0 H locs cp mo → lv_has ls 4 [(3, .int i), (2, .ref mo), (1, .ref cp), (0, .ref b)] → W p l e room_1 s m #[Value.ref b] below meth c H locs (cells + 3) (slots + 17) (lw_Z below #[Value.ref b] s) (F0 m 1241 ls [])) : W p l e room_1 s m #[Value.ref b] below meth c H locs cells slots (lw_Z below #[Value.ref b] s) (F0 m 258 ls []) := by
  obtain ⟨hx, hb, hr, hml, hown, hts0, hSc, hbl, hlocks, hgv⟩ := id C0
  have hE := xs_E hts0
  have hts : ∀ w ∈ wsL_law, w.before #[Value.ref b] s = true := fun w h => hts0 w (wsL_law_in w h)
  have hA : ∀ q : Nat, s.heap.size ≤ q → A q := fun q h => by rw [← hAe]; exact h
  have hbA : ¬ A b := by rw [← hAe]; exact Nat.not_le.mpr hbl
  obtain ⟨g, hI, hR, tcp, tmo, J1, J2, hU, R_al, R_tp, R_ck, R_fa, R_bk, R_dr, R_tb, R_gb⟩ := T
  unfold h_J2 at J2
  obtain ⟨lw, rlw, tlw⟩ := hR.at mo 10 tmo (rfl : h_rs 13 10 = some (1310, false)) (by decide)
  have alw : h_ad z mo 10 = lw := h_ad.at rlw
  obtain ⟨tb, rtb, ttb⟩ := hR.at mo 32 tmo (rfl : h_rs 13 32 = some (1332, false)) (by decide)
  have atb : h_ad z mo 32 = tb := h_ad.at rtb
  obtain ⟨rd, rrd, trd⟩ := hR.at cp 2 tcp (rfl : h_rs 12 2 = some (5, false)) (by decide)
  have ard : h_ad z cp 2 = rd := h_ad.at rrd
  obtain ⟨tp, rtp, ttp⟩ := hR.at cp 0 tcp (rfl : h_rs 12 0 = some (9, false)) (by decide)
  have atp : h_ad z cp 0 = tp := h_ad.at rtp
  obtain ⟨bk, rbk, tbk⟩ := hR.at cp 3 tcp (rfl : h_rs 12 3 = some (1, false)) (by decide)
  have abk : h_ad z cp 3 = bk := h_ad.at rbk
  obtain ⟨lb, rlb, tlb⟩ := hR.at cp 1 tcp (rfl : h_rs 12 1 = some (4, false)) (by decide)
  have alb : h_ad z cp 1 = lb := h_ad.at rlb
  obtain ⟨bg, rbg, tbg⟩ := hR.at cp 5 tcp (rfl : h_rs 12 5 = some (10, false)) (by decide)
  have abg : h_ad z cp 5 = bg := h_ad.at rbg
  obtain ⟨tu, rtu, ttu⟩ := hR.at cp 4 tcp (rfl : h_rs 12 4 = some (11, false)) (by decide)
  have atu : h_ad z cp 4 = tu := h_ad.at rtu
  obtain ⟨rg, rrg, trg⟩ := hR.at cp 6 tcp (rfl : h_rs 12 6 = some (8, false)) (by decide)
  have arg : h_ad z cp 6 = rg := h_ad.at rrg
  obtain ⟨bt, rbt, tbt⟩ := hR.at tp 0 ttp (rfl : h_rs 9 0 = some (900, false)) (by decide)
  have abt : h_ad z tp 0 = bt := h_ad.at rbt
  obtain ⟨mb, rmb, tmb⟩ := hR.at mo 0 tmo (rfl : h_rs 13 0 = some (1300, false)) (by decide)
  have amb : h_ad z mo 0 = mb := h_ad.at rmb
  obtain ⟨tx, rtx, ttx⟩ := hR.at lb 1 tlb (rfl : h_rs 4 1 = some (401, false)) (by decide)
  have atx : h_ad z lb 1 = tx := h_ad.at rtx
  obtain ⟨un, run, tun⟩ := hR.at lb 0 tlb (rfl : h_rs 4 0 = some (6, false)) (by decide)
  have aun : h_ad z lb 0 = un := h_ad.at run
  obtain ⟨hy, rhy, thy⟩ := hR.at mo 11 tmo (rfl : h_rs 13 11 = some (1311, false)) (by decide)
  have ahy : h_ad z mo 11 = hy := h_ad.at rhy
  obtain ⟨dt, rdt, tdt⟩ := hR.at cp 7 tcp (rfl : h_rs 12 7 = some (3, false)) (by decide)
  have adt : h_ad z cp 7 = dt := h_ad.at rdt
  obtain ⟨dr, rdr, tdr⟩ := hR.at dt 2 tdt (rfl : h_rs 3 2 = some (302, false)) (by decide)
  have adr : h_ad z dt 2 = dr := h_ad.at rdr
  obtain ⟨rl, rrl, trl⟩ := hR.at rd 1 trd (rfl : h_rs 5 1 = some (6, false)) (by decide)
  have arl : h_ad z rd 1 = rl := h_ad.at rrl
  obtain ⟨rn, rrn, trn⟩ := hR.at rl 0 trl (rfl : h_rs 6 0 = some (600, false)) (by decide)
  have arn : h_ad z rl 0 = rn := h_ad.at rrn
  obtain ⟨ro, rro, tro⟩ := hR.at rl 1 trl (rfl : h_rs 6 1 = some (601, false)) (by decide)
  have aro : h_ad z rl 1 = ro := h_ad.at rro
  obtain ⟨rk, rrk, trk⟩ := hR.at dt 0 tdt (rfl : h_rs 3 0 = some (300, false)) (by decide)
  have ark : h_ad z dt 0 = rk := h_ad.at rrk
  rw [alw] at J1
  rw [atb] at J2
  rw [ard, atp, abk, alb, abg, atu, arg] at R_al
  rw [atp, abt, amb] at R_tp
  rw [abk] at R_ck
  rw [ard] at R_fa
  rw [alb, atx, aun, alw, ahy] at R_bk
  rw [adt, adr] at R_dr
  rw [adt] at R_tb
  refine lv_aload_n hx hb dL_law_258 rfl (lv_at hl 2 rfl) ?_
  refine lv_aload_n hx hb dL_law_259 rfl (lv_at hl 3 rfl) ?_
  refine lv_iload_n hx hb dL_law_260 rfl (lv_at hl 0 rfl) ?_
  refine lv_iconst (v := 1) hx hb dL_law_261 (by decide) ?_
  refine lv_iadd hx hb dL_law_262 ?_
  refine lv_topi (fun v1 ev1 => ?_)
  refine va_sld hx hb hSc hbl hbA g.2.1 (h_ix hi0 hi8 hL ev1 (k := 1) (by decide) (by decide) (by decide)) dL_law_263 ?_
  refine lv_topi (fun v2 ev2 => ?_)
  have hIo := hI
  refine va_calli (va_runV (As := [.int v2]) (rest := []) ⟨hx, hb, hml, hown, hts⟩ (zX11_lawsX l E X A z I0 L0 cp tcp v2 (v2.toInt) rfl hU) (cwV 1 hts gL_law_X11_laws rfl rfl rfl (by decide +kernel) ⟨Nat.le_of_ble_eq_true rfl, Nat.le_of_ble_eq_true rfl⟩) ⟨h_blind _ _ _ _ _ _ _, h_recv g tcp (by decide) so_12 (q := (RX11, TX11, 8)) rfl, h_pre _ hE hk hX hA hI hR g⟩ rfl rfl hl.1 rfl (lv_room (Nat.le_of_ble_eq_true rfl)) dL_law_264 ⟨show cells + 3 ≤ 600000 by omega, show slots + 17 ≤ 7302250 by omega⟩) g.2.1 (fun q _ h => h) (fun q h => h) (fun rh3 u t H1 locs ht hvm h3 hB hz1 hk1 hS => ?_)
  obtain ⟨zn, I4, L5⟩ := u
  obtain ⟨hI, hRn, xh3, qh3, h3⟩ := h3
  have hI : h_I zn I4 := hI
  have hRn : h_R zn := hRn
  have hB : h_B E A zn I4 L5 t := hB
  have xh3 : h_X [(5, 4), (5, 5), (5, 6), (5, 7), (5, 2), (5, 3), (600, 999), (601, 999), (6, 2), (5, 8), (9, 1)] [401] none z _ _ zn I4 L5 := xh3
  have qh3 : h_Q [(5, 4), (5, 5), (5, 6), (5, 7), (5, 2), (5, 3), (600, 999), (601, 999), (6, 2), (5, 8), (9, 1)] none z zn I4 := qh3
  replace J1 : h_J1 (I4 lw) := by rw [show I4 lw = I0 lw from funext (fun k => xh3.I tlw (by decide) (fun h9 => by cases h9) rfl)]; exact J1
  rw [← xh3.I tmo (by decide) (fun h9 => by cases h9) rfl, show I0 tb = I4 tb from funext (fun k => (xh3.I ttb (by decide) (fun h9 => by cases h9) rfl).symm)] at J2
  have oR_al := R_al
  have oR_tp := R_tp
  have oR_ck := R_ck
  have oR_fa := R_fa
  have oR_bk := R_bk
  have oR_dr := R_dr
  have oR_tb := R_tb
  have oR_gb := R_gb
  replace R_al : zn.R rd 0 = some tp ∧ zn.R bk 0 = some lb ∧ zn.R bg 0 = some bk ∧ zn.R bg 1 = some tu ∧ zn.R rg 0 = some bk := ⟨xh3.R trd (by decide) (fun h9 => by cases h9) rfl R_al.1, xh3.R tbk (by decide) (fun h9 => by cases h9) rfl R_al.2.1, xh3.R tbg (by decide) (fun h9 => by cases h9) rfl R_al.2.2.1, xh3.R tbg (by decide) (fun h9 => by cases h9) rfl R_al.2.2.2.1, xh3.R trg (by decide) (fun h9 => by cases h9) rfl R_al.2.2.2.2⟩
  replace R_ck : I4 bk 3 = I4 mo 12 := by rw [show I4 bk 3 = I0 bk 3 from xh3.I tbk (by decide) (fun h9 => by cases h9) rfl, show I4 mo 12 = I0 mo 12 from xh3.I tmo (by decide) (fun h9 => by cases h9) rfl]; exact R_ck
  have pP := h3.1
  dsimp only at pP
  rw [ard, h_ad.at oR_al.1, abt, arl, arn, aro, alb, atx, abk] at pP
  have pS := h3.2
  dsimp only at pS
  rw [atp] at pS
  have kt : ∀ b : Nat, z.ty b ≠ 0 → zn.ty b = z.ty b := fun b h9 => (xh3 b h9 (fun q => by cases q)).1
  have e6 : ∀ b : Nat, z.ty b = 6 → zn.R b = z.R b := fun b h9 => (xh3 b (by rw [h9]; decide) (fun q => by cases q)).2.1 (by rw [h9]; rfl)
  have oU := hU
  have oR := hR
  have oRn := hRn
  have otx := ttx
  have ord := trd
  have orl := trl
  have orn := trn
  have oro := tro
  have olb := tlb
  have oun := tun
  have qrl := rrl
  have qrn := rrn
  have qro := rro
  have qun := run
  have m1 : I4 mo 1 = I0 mo 1 := xh3.I tmo (by decide) (fun h9 => by cases h9) rfl
  have m8 : I4 mo 8 = I0 mo 8 := xh3.I tmo (by decide) (fun h9 => by cases h9) rfl
  have m9 : I4 mo 9 = I0 mo 9 := xh3.I tmo (by decide) (fun h9 => by cases h9) rfl
  have m12 : I4 mo 12 = I0 mo 12 := xh3.I tmo (by decide) (fun h9 => by cases h9) rfl
  have mb1 : I4 mb = I0 mb := funext (fun k => xh3.I tmb (by decide) (fun h9 => by cases h9) rfl)
  have b1 : I4 bt = I0 bt := funext (fun k => xh3.I tbt (by decide) (fun h9 => by cases h9) rfl)
  have el : I4 lw = I0 lw := funext (fun k => xh3.I tlw (by decide) (fun h9 => by cases h9) rfl)
  have ey : I4 hy = I0 hy := funext (fun k => xh3.I thy (by decide) (fun h9 => by cases h9) rfl)
  have pCK := oR_ck
  replace R_dr : (I4 dr (I4 mo 12).toInt.toNat).toInt = (I4 mo 31).toInt ∧ ∀ k : Nat, (I4 mo 12).toInt < (k : Int) → I4 dr k = 0 := by rw [show I4 dr = I0 dr from funext (fun k => xh3.I tdr (by decide) (fun h9 => by cases h9) rfl), show I4 mo 12 = I0 mo 12 from xh3.I tmo (by decide) (fun h9 => by cases h9) rfl, show I4 mo 31 = I0 mo 31 from xh3.I tmo (by decide) (fun h9 => by cases h9) rfl]; exact R_dr
  replace R_tb : I4 dt 1 = I4 mo 30 := by rw [show I4 dt 1 = I0 dt 1 from xh3.I tdt (by decide) (fun h9 => by cases h9) rfl, show I4 mo 30 = I0 mo 30 from xh3.I tmo (by decide) (fun h9 => by cases h9) rfl]; exact R_tb
  replace R_gb : h_gb zn I4 cp mo := R_gb.X hR tcp tmo xh3 (by decide) (by decide) (hIo.rd mo 13 tmo rfl (rfl : h_bd 13 13 = (0, 60))).2
  have rlw := xh3.R tmo (by decide) (fun h9 => by cases h9) rfl rlw
  have alw := h_ad.at rlw
  have rtb := xh3.R tmo (by decide) (fun h9 => by cases h9) rfl rtb
  have atb := h_ad.at rtb
  have rrd := xh3.R tcp (by decide) (fun h9 => by cases h9) rfl rrd
  have ard := h_ad.at rrd
  have rtp := xh3.R tcp (by decide) (fun h9 => by cases h9) rfl rtp
  have atp := h_ad.at rtp
  have rbk := xh3.R tcp (by decide) (fun h9 => by cases h9) rfl rbk
  have abk := h_ad.at rbk
  have rlb := xh3.R tcp (by decide) (fun h9 => by cases h9) rfl rlb
  have alb := h_ad.at rlb
  have rbg := xh3.R tcp (by decide) (fun h9 => by cases h9) rfl rbg
  have abg := h_ad.at rbg
  have rtu := xh3.R tcp (by decide) (fun h9 => by cases h9) rfl rtu
  have atu := h_ad.at rtu
  have rrg := xh3.R tcp (by decide) (fun h9 => by cases h9) rfl rrg
  have arg := h_ad.at rrg
  have rbt := xh3.R ttp (by decide) (fun h9 => by cases h9) rfl rbt
  have abt := h_ad.at rbt
  have rmb := xh3.R tmo (by decide) (fun h9 => by cases h9) rfl rmb
  have amb := h_ad.at rmb
  have rtx := xh3.R tlb (by decide) (fun h9 => by cases h9) rfl rtx
  have atx := h_ad.at rtx
  have run := xh3.R tlb (by decide) (fun h9 => by cases h9) rfl run
  have aun := h_ad.at run
  have rhy := xh3.R tmo (by decide) (fun h9 => by cases h9) rfl rhy
  have ahy := h_ad.at rhy
  have rdt := xh3.R tcp (by decide) (fun h9 => by cases h9) rfl rdt
  have adt := h_ad.at rdt
  have rdr := xh3.R tdt (by decide) (fun h9 => by cases h9) rfl rdr
  have adr := h_ad.at rdr
  have rrl := xh3.R trd (by decide) (fun h9 => by cases h9) rfl rrl
  have arl := h_ad.at rrl
  have rrn := xh3.R trl (by decide) (fun h9 => by cases h9) rfl rrn
  have arn := h_ad.at rrn
  have rro := xh3.R trl (by decide) (fun h9 => by cases h9) rfl rro
  have aro := h_ad.at rro
  have rrk := xh3.R tdt (by decide) (fun h9 => by cases h9) rfl rrk
  have ark := h_ad.at rrk
  have tlw := xh3.ty tlw (by decide) (fun h9 => by cases h9)
  have ttb := xh3.ty ttb (by decide) (fun h9 => by cases h9)
  have trd := xh3.ty trd (by decide) (fun h9 => by cases h9)
  have ttp := xh3.ty ttp (by decide) (fun h9 => by cases h9)
  have tbk := xh3.ty tbk (by decide) (fun h9 => by cases h9)
  have tlb := xh3.ty tlb (by decide) (fun h9 => by cases h9)
  have tbg := xh3.ty tbg (by decide) (fun h9 => by cases h9)
  have ttu := xh3.ty ttu (by decide) (fun h9 => by cases h9)
  have trg := xh3.ty trg (by decide) (fun h9 => by cases h9)
  have tbt := xh3.ty tbt (by decide) (fun h9 => by cases h9)
  have tmb := xh3.ty tmb (by decide) (fun h9 => by cases h9)
  have ttx := xh3.ty ttx (by decide) (fun h9 => by cases h9)
  have tun := xh3.ty tun (by decide) (fun h9 => by cases h9)
  have thy := xh3.ty thy (by decide) (fun h9 => by cases h9)
  have tdt := xh3.ty tdt (by decide) (fun h9 => by cases h9)
  have tdr := xh3.ty tdr (by decide) (fun h9 => by cases h9)
  have trl := xh3.ty trl (by decide) (fun h9 => by cases h9)
  have trn := xh3.ty trn (by decide) (fun h9 => by cases h9)
  have tro := xh3.ty tro (by decide) (fun h9 => by cases h9)
  have trk := xh3.ty trk (by decide) (fun h9 => by cases h9)
  have tcp := xh3.ty tcp (by decide) (fun h9 => by cases h9)
  have tmo := xh3.ty tmo (by decide) (fun h9 => by cases h9)
  have hR := hRn
  have hU := qh3.1
  rename tZ => z
  replace g := h_after g hB ht hS
  generalize H1 = H at g
  clear hB hk1 hz1 ht hvm hS
  refine lv_pop hx hb dL_law_267 rfl ?_
  refine lv_aload_n hx hb dL_law_268 rfl (lv_at hl 1 rfl) ?_
  refine lv_aload_n hx hb dL_law_269 rfl (lv_at hl 3 rfl) ?_
  refine lv_iload_n hx hb dL_law_270 rfl (lv_at hl 0 rfl) ?_
  refine lv_iconst (v := 1) hx hb dL_law_271 (by decide) ?_
  refine lv_iadd hx hb dL_law_272 ?_
  refine lv_topi (fun v6 ev6 => ?_)
  refine va_sld hx hb hSc hbl hbA g.2.1 (h_ix hi0 hi8 hL ev6 (k := 1) (by decide) (by decide) (by decide)) dL_law_273 ?_
  refine xw_i (v := v2) (by rw [show v6 = v1 from ev6.trans ev1.symm]; exact ev2.symm) ?_
  have hIo := hI
  refine va_calli (va_runV (As := [.int v2]) (rest := []) ⟨hx, hb, hml, hown, hts⟩ (tX12_lawsX l E X A z I4 L5 mo tmo v2 (v2.toInt) rfl (by rw [alw]; exact J1)) (cwV 1 hts gL_law_X12_laws rfl rfl rfl (by decide +kernel) ⟨Nat.le_of_ble_eq_true rfl, Nat.le_of_ble_eq_true rfl⟩) ⟨h_blind _ _ _ _ _ _ _, h_recv g tmo (by decide) so_13 (q := (RX12, TX12, 51)) rfl, h_pre _ hE hk hX hA hI hR g⟩ rfl rfl hl.1 rfl (lv_room (Nat.le_of_ble_eq_true rfl)) dL_law_274 ⟨show (cells + 3) + 0 ≤ 600000 by omega, show (slots + 17) + 0 ≤ 7302250 by omega⟩) g.2.1 (fun q _ h => h) (fun q h => h) (fun rh8 I9 t H1 locs ht hvm h8 hB hz1 hk1 hS => ?_)
  obtain ⟨hI, fh8, h8⟩ := h8
  have J9 := h8.2.2
  rw [alw] at J9
  replace J1 := J9
  rw [← fh8.at tmo rfl, show I4 tb = I9 tb from funext (fun k => (fh8.at ttb rfl).symm)] at J2
  have oR_al := R_al
  have oR_tp := R_tp
  have oR_ck := R_ck
  have oR_fa := R_fa
  have oR_bk := R_bk
  have oR_dr := R_dr
  have oR_tb := R_tb
  have oR_gb := R_gb
  skip
  replace R_ck : I9 bk 3 = I9 mo 12 := by rw [show I9 bk 3 = I4 bk 3 from fh8.at tbk rfl, show I9 mo 12 = I4 mo 12 from fh8.at tmo rfl]; exact R_ck
  have qP := h8.1
  rw [alw, ahy, amb] at qP
  obtain ⟨same, Rf, Rb⟩ := h_laws2 oU oR oRn otx ord orl orn oro olb oun qrl qrn qro qun kt e6 R_tp pCK R_fa R_bk pP m1 m8 m9 m12 mb1 el ey qP (fh8.at trd rfl) (fh8.at trd rfl) (fun b k h9 => by rcases h9 with h9 | h9 | h9 <;> exact fh8.at h9 rfl)
  replace R_fa := Rf
  replace R_bk := Rb
  replace R_tp : I9 tp 1 = I9 mo 1 ∧ I9 bt = I9 mb := ⟨xi_of (by rw [show I9 tp 1 = I4 tp 1 from fh8.at ttp rfl, pS, h8.2.1]), (funext (fun k => fh8.at tbt rfl)).trans (b1.trans (R_tp.2.trans (mb1.symm.trans (funext (fun k => fh8.at tmb rfl)).symm)))⟩
  replace R_dr : (I9 dr (I9 mo 12).toInt.toNat).toInt = (I9 mo 31).toInt ∧ ∀ k : Nat, (I9 mo 12).toInt < (k : Int) → I9 dr k = 0 := by rw [show I9 dr = I4 dr from funext (fun k => fh8.at tdr rfl), show I9 mo 12 = I4 mo 12 from fh8.at tmo rfl, show I9 mo 31 = I4 mo 31 from fh8.at tmo rfl]; exact R_dr
  replace R_tb : I9 dt 1 = I9 mo 30 := by rw [show I9 dt 1 = I4 dt 1 from fh8.at tdt rfl, show I9 mo 30 = I4 mo 30 from fh8.at tmo rfl]; exact R_tb
  replace R_gb := g_laws2 R_gb hR hIo tcp tmo h8.1 fh8
  replace g := h_after g hB ht hS
  generalize H1 = H at g
  clear hB hk1 hz1 ht hvm hS
  refine lv_pop hx hb dL_law_277 rfl ?_
  refine lv_goto (tgt := 1241) hx hb dL_law_278 (by decide) ?_
  exact W.widen (by omega) (by omega) (kk z I9 L5 _ _ _ ⟨g, hI, hR, tcp, tmo, by rw [alw]; exact J1, by unfold h_J2; rw [atb]; exact J2, hU, by rw [ard, atp, abk, alb, abg, atu, arg]; exact R_al, by rw [atp, abt, amb]; exact R_tp, by rw [abk]; exact R_ck, by rw [ard]; exact R_fa, by rw [alb, atx, aun, alw, ahy]; exact R_bk, by rw [adt, adr]; exact R_dr, by rw [adt]; exact R_tb, by exact R_gb⟩ hl)
set_option maxHeartbeats 8000000 in
set_option maxRecDepth 100000 in
theorem law_3 {p : Program} {l : Launch} {e : Env} {s : State} {m : MethodId} {below : List Frame} {meth : Method} {c : Code} {b L : Nat} {xs : Nat → Int32} (C0 : lw_At p s m meth c b L xs) (hL : L ≤ 4096) {A : Nat → Prop} (hAe : (fun q : Nat => s.heap.size ≤ q) = A) {E : tE} {X : tX} (hk : h_Kr X s) (hX : h_S X A s s.heap) {i : Int32} (hi0 : 0 ≤ i.toInt) (hi8 : i.toInt + 8 ≤ L) {cp mo : Nat} {cells slots : Nat} (hcl : cells ≤ 500000) (hsl : slots ≤ 7000000) {z : tZ} {I0 : tI} {L0 : tL} {H : Heap} {locs : List Loc} {ls : Array Slot} (T : h_T E A s z I0 L0 H locs cp mo) (hl : lv_has ls 4 [(3, .int i), (2, .ref mo), (1, .ref cp), (0, .ref b)]) (kk : ∀ (z : tZ) (I0 : tI) (L0 : tL) (H : Heap) (locs : List Loc) (ls : Array Slot), h_T E A s z I0 L0 H locs cp mo → lv_has ls 4 [(3, .int i), (2, .ref mo), (1, .ref cp), (0, .ref b)] → W p l e room_1 s m #[Value.ref b] below meth c H locs (cells + 3) (slots + 17) (lw_Z below #[Value.ref b] s) (F0 m 1241 ls [])) : W p l e room_1 s m #[Value.ref b] below meth c H locs cells slots (lw_Z below #[Value.ref b] s) (F0 m 281 ls []) := by
  obtain ⟨hx, hb, hr, hml, hown, hts0, hSc, hbl, hlocks, hgv⟩ := id C0
  have hE := xs_E hts0
  have hts : ∀ w ∈ wsL_law, w.before #[Value.ref b] s = true := fun w h => hts0 w (wsL_law_in w h)
  have hA : ∀ q : Nat, s.heap.size ≤ q → A q := fun q h => by rw [← hAe]; exact h
  have hbA : ¬ A b := by rw [← hAe]; exact Nat.not_le.mpr hbl
  obtain ⟨g, hI, hR, tcp, tmo, J1, J2, hU, R_al, R_tp, R_ck, R_fa, R_bk, R_dr, R_tb, R_gb⟩ := T
  unfold h_J2 at J2
  obtain ⟨lw, rlw, tlw⟩ := hR.at mo 10 tmo (rfl : h_rs 13 10 = some (1310, false)) (by decide)
  have alw : h_ad z mo 10 = lw := h_ad.at rlw
  obtain ⟨tb, rtb, ttb⟩ := hR.at mo 32 tmo (rfl : h_rs 13 32 = some (1332, false)) (by decide)
  have atb : h_ad z mo 32 = tb := h_ad.at rtb
  obtain ⟨rd, rrd, trd⟩ := hR.at cp 2 tcp (rfl : h_rs 12 2 = some (5, false)) (by decide)
  have ard : h_ad z cp 2 = rd := h_ad.at rrd
  obtain ⟨tp, rtp, ttp⟩ := hR.at cp 0 tcp (rfl : h_rs 12 0 = some (9, false)) (by decide)
  have atp : h_ad z cp 0 = tp := h_ad.at rtp
  obtain ⟨bk, rbk, tbk⟩ := hR.at cp 3 tcp (rfl : h_rs 12 3 = some (1, false)) (by decide)
  have abk : h_ad z cp 3 = bk := h_ad.at rbk
  obtain ⟨lb, rlb, tlb⟩ := hR.at cp 1 tcp (rfl : h_rs 12 1 = some (4, false)) (by decide)
  have alb : h_ad z cp 1 = lb := h_ad.at rlb
  obtain ⟨bg, rbg, tbg⟩ := hR.at cp 5 tcp (rfl : h_rs 12 5 = some (10, false)) (by decide)
  have abg : h_ad z cp 5 = bg := h_ad.at rbg
  obtain ⟨tu, rtu, ttu⟩ := hR.at cp 4 tcp (rfl : h_rs 12 4 = some (11, false)) (by decide)
  have atu : h_ad z cp 4 = tu := h_ad.at rtu
  obtain ⟨rg, rrg, trg⟩ := hR.at cp 6 tcp (rfl : h_rs 12 6 = some (8, false)) (by decide)
  have arg : h_ad z cp 6 = rg := h_ad.at rrg
  obtain ⟨bt, rbt, tbt⟩ := hR.at tp 0 ttp (rfl : h_rs 9 0 = some (900, false)) (by decide)
  have abt : h_ad z tp 0 = bt := h_ad.at rbt
  obtain ⟨mb, rmb, tmb⟩ := hR.at mo 0 tmo (rfl : h_rs 13 0 = some (1300, false)) (by decide)
  have amb : h_ad z mo 0 = mb := h_ad.at rmb
  obtain ⟨tx, rtx, ttx⟩ := hR.at lb 1 tlb (rfl : h_rs 4 1 = some (401, false)) (by decide)
  have atx : h_ad z lb 1 = tx := h_ad.at rtx
  obtain ⟨un, run, tun⟩ := hR.at lb 0 tlb (rfl : h_rs 4 0 = some (6, false)) (by decide)
  have aun : h_ad z lb 0 = un := h_ad.at run
  obtain ⟨hy, rhy, thy⟩ := hR.at mo 11 tmo (rfl : h_rs 13 11 = some (1311, false)) (by decide)
  have ahy : h_ad z mo 11 = hy := h_ad.at rhy
  obtain ⟨dt, rdt, tdt⟩ := hR.at cp 7 tcp (rfl : h_rs 12 7 = some (3, false)) (by decide)
  have adt : h_ad z cp 7 = dt := h_ad.at rdt
  obtain ⟨dr, rdr, tdr⟩ := hR.at dt 2 tdt (rfl : h_rs 3 2 = some (302, false)) (by decide)
  have adr : h_ad z dt 2 = dr := h_ad.at rdr
  obtain ⟨rl, rrl, trl⟩ := hR.at rd 1 trd (rfl : h_rs 5 1 = some (6, false)) (by decide)
  have arl : h_ad z rd 1 = rl := h_ad.at rrl
  obtain ⟨rn, rrn, trn⟩ := hR.at rl 0 trl (rfl : h_rs 6 0 = some (600, false)) (by decide)
  have arn : h_ad z rl 0 = rn := h_ad.at rrn
  obtain ⟨ro, rro, tro⟩ := hR.at rl 1 trl (rfl : h_rs 6 1 = some (601, false)) (by decide)
  have aro : h_ad z rl 1 = ro := h_ad.at rro
  obtain ⟨rk, rrk, trk⟩ := hR.at dt 0 tdt (rfl : h_rs 3 0 = some (300, false)) (by decide)
  have ark : h_ad z dt 0 = rk := h_ad.at rrk
  rw [alw] at J1
  rw [atb] at J2
  rw [ard, atp, abk, alb, abg, atu, arg] at R_al
  rw [atp, abt, amb] at R_tp
  rw [abk] at R_ck
  rw [ard] at R_fa
  rw [alb, atx, aun, alw, ahy] at R_bk
  rw [adt, adr] at R_dr
  rw [adt] at R_tb
  refine lv_aload_n hx hb dL_law_281 rfl (lv_at hl 2 rfl) ?_
  refine lv_aload_n hx hb dL_law_282 rfl (lv_at hl 3 rfl) ?_
  refine lv_iload_n hx hb dL_law_283 rfl (lv_at hl 0 rfl) ?_
  refine lv_iconst (v := 1) hx hb dL_law_284 (by decide) ?_
  refine lv_iadd hx hb dL_law_285 ?_
  refine lv_topi (fun v1 ev1 => ?_)
  refine va_sld hx hb hSc hbl hbA g.2.1 (h_ix hi0 hi8 hL ev1 (k := 1) (by decide) (by decide) (by decide)) dL_law_286 ?_
  refine lv_topi (fun v2 ev2 => ?_)
  refine vp_callSi (W.runV (As := [.int v2]) (rest := []) ⟨hx, hb, hml, hown, hts⟩ (tX11_faultX l E X A z I0 L0 cp tcp v2 (v2.toInt) rfl) (cwV 1 hts gL_law_X11_fault rfl rfl rfl (by decide +kernel) ⟨Nat.le_of_ble_eq_true rfl, Nat.le_of_ble_eq_true rfl⟩) ⟨h_blind _ _ _ _ _ _ _, h_recv g tcp (by decide) so_12 (q := (RX11, TX11, 8)) rfl, h_pre _ hE hk hX hA hI hR g⟩ rfl rfl hl.1 rfl (lv_room (Nat.le_of_ble_eq_true rfl)) dL_law_287 ⟨show cells + 0 ≤ 600000 by omega, show slots + 0 ≤ 7302250 by omega⟩) (fun rh3 h3 => ?_)
  have pP := h3
  rw [ard] at pP
  refine lv_pop hx hb dL_law_290 rfl ?_
  refine lv_aload_n hx hb dL_law_291 rfl (lv_at hl 1 rfl) ?_
  refine lv_aload_n hx hb dL_law_292 rfl (lv_at hl 3 rfl) ?_
  refine lv_iload_n hx hb dL_law_293 rfl (lv_at hl 0 rfl) ?_
  refine lv_iconst (v := 1) hx hb dL_law_294 (by decide) ?_
  refine lv_iadd hx hb dL_law_295 ?_
  refine lv_topi (fun v4 ev4 => ?_)
  refine va_sld hx hb hSc hbl hbA g.2.1 (h_ix hi0 hi8 hL ev4 (k := 1) (by decide) (by decide) (by decide)) dL_law_296 ?_
  refine xw_i (v := v2) (by rw [show v4 = v1 from ev4.trans ev1.symm]; exact ev2.symm) ?_
  refine vp_callSi (W.runV (As := [.int v2]) (rest := []) ⟨hx, hb, hml, hown, hts⟩ (tX12_faultX l E X A z I0 L0 mo tmo v2 (v2.toInt) rfl) (cwV 1 hts gL_law_X12_fault rfl rfl rfl (by decide +kernel) ⟨Nat.le_of_ble_eq_true rfl, Nat.le_of_ble_eq_true rfl⟩) ⟨h_blind _ _ _ _ _ _ _, h_recv g tmo (by decide) so_13 (q := (RX12, TX12, 51)) rfl, h_pre _ hE hk hX hA hI hR g⟩ rfl rfl hl.1 rfl (lv_room (Nat.le_of_ble_eq_true rfl)) dL_law_297 ⟨show cells + 0 ≤ 600000 by omega, show slots + 0 ≤ 7302250 by omega⟩) (fun rh6 h6 => ?_)
  have same := h_fault2 R_fa pP h6
  refine lv_pop hx hb dL_law_300 rfl ?_
  refine lv_goto (tgt := 1241) hx hb dL_law_301 (by decide) ?_
  exact W.widen (by omega) (by omega) (kk z I0 L0 _ _ _ ⟨g, hI, hR, tcp, tmo, by rw [alw]; exact J1, by unfold h_J2; rw [atb]; exact J2, hU, by rw [ard, atp, abk, alb, abg, atu, arg]; exact R_al, by rw [atp, abt, amb]; exact R_tp, by rw [abk]; exact R_ck, by rw [ard]; exact R_fa, by rw [alb, atx, aun, alw, ahy]; exact R_bk, by rw [adt, adr]; exact R_dr, by rw [adt]; exact R_tb, by exact R_gb⟩ hl)
set_option maxHeartbeats 8000000 in
set_option maxRecDepth 100000 in
theorem law_4 {p : Program} {l : Launch} {e : Env} {s : State} {m : MethodId} {below : List Frame} {meth : Method} {c : Code} {b L : Nat} {xs : Nat → Int32} (C0 : lw_At p s m meth c b L xs) (hL : L ≤ 4096) {A : Nat → Prop} (hAe : (fun q : Nat => s.heap.size ≤ q) = A) {E : tE} {X : tX} (hk : h_Kr X s) (hX : h_S X A s s.heap) {i : Int32} (hi0 : 0 ≤ i.toInt) (hi8 : i.toInt + 8 ≤ L) {cp mo : Nat} {cells slots : Nat} (hcl : cells ≤ 500000) (hsl : slots ≤ 7000000) {z : tZ} {I0 : tI} {L0 : tL} {H : Heap} {locs : List Loc} {ls : Array Slot} (T : h_T E A s z I0 L0 H locs cp mo) (hl : lv_has ls 4 [(3, .int i), (2, .ref mo), (1, .ref cp), (0, .ref b)]) (kk : ∀ (z : tZ) (I0 : tI) (L0 : tL) (H : Heap) (locs : List Loc) (ls : Array Slot), h_T E A s z I0 L0 H locs cp mo → lv_has ls 4 [(3, .int i), (2, .ref mo), (1, .ref cp), (0, .ref b)] → W p l e room_1 s m #[Value.ref b] below meth c H locs (cells + 3) (slots + 17) (lw_Z below #[Value.ref b] s) (F0 m 1241 ls [])) : W p l e room_1 s m #[Value.ref b] below meth c H locs cells slots (lw_Z below #[Value.ref b] s) (F0 m 304 ls []) := by
  obtain ⟨hx, hb, hr, hml, hown, hts0, hSc, hbl, hlocks, hgv⟩ := id C0
  have hE := xs_E hts0
  have hts : ∀ w ∈ wsL_law, w.before #[Value.ref b] s = true := fun w h => hts0 w (wsL_law_in w h)
  have hA : ∀ q : Nat, s.heap.size ≤ q → A q := fun q h => by rw [← hAe]; exact h
  have hbA : ¬ A b := by rw [← hAe]; exact Nat.not_le.mpr hbl
  obtain ⟨g, hI, hR, tcp, tmo, J1, J2, hU, R_al, R_tp, R_ck, R_fa, R_bk, R_dr, R_tb, R_gb⟩ := T
  unfold h_J2 at J2
  obtain ⟨lw, rlw, tlw⟩ := hR.at mo 10 tmo (rfl : h_rs 13 10 = some (1310, false)) (by decide)
  have alw : h_ad z mo 10 = lw := h_ad.at rlw
  obtain ⟨tb, rtb, ttb⟩ := hR.at mo 32 tmo (rfl : h_rs 13 32 = some (1332, false)) (by decide)
  have atb : h_ad z mo 32 = tb := h_ad.at rtb
  obtain ⟨rd, rrd, trd⟩ := hR.at cp 2 tcp (rfl : h_rs 12 2 = some (5, false)) (by decide)
  have ard : h_ad z cp 2 = rd := h_ad.at rrd
  obtain ⟨tp, rtp, ttp⟩ := hR.at cp 0 tcp (rfl : h_rs 12 0 = some (9, false)) (by decide)
  have atp : h_ad z cp 0 = tp := h_ad.at rtp
  obtain ⟨bk, rbk, tbk⟩ := hR.at cp 3 tcp (rfl : h_rs 12 3 = some (1, false)) (by decide)
  have abk : h_ad z cp 3 = bk := h_ad.at rbk
  obtain ⟨lb, rlb, tlb⟩ := hR.at cp 1 tcp (rfl : h_rs 12 1 = some (4, false)) (by decide)
  have alb : h_ad z cp 1 = lb := h_ad.at rlb
  obtain ⟨bg, rbg, tbg⟩ := hR.at cp 5 tcp (rfl : h_rs 12 5 = some (10, false)) (by decide)
  have abg : h_ad z cp 5 = bg := h_ad.at rbg
  obtain ⟨tu, rtu, ttu⟩ := hR.at cp 4 tcp (rfl : h_rs 12 4 = some (11, false)) (by decide)
  have atu : h_ad z cp 4 = tu := h_ad.at rtu
  obtain ⟨rg, rrg, trg⟩ := hR.at cp 6 tcp (rfl : h_rs 12 6 = some (8, false)) (by decide)
  have arg : h_ad z cp 6 = rg := h_ad.at rrg
  obtain ⟨bt, rbt, tbt⟩ := hR.at tp 0 ttp (rfl : h_rs 9 0 = some (900, false)) (by decide)
  have abt : h_ad z tp 0 = bt := h_ad.at rbt
  obtain ⟨mb, rmb, tmb⟩ := hR.at mo 0 tmo (rfl : h_rs 13 0 = some (1300, false)) (by decide)
  have amb : h_ad z mo 0 = mb := h_ad.at rmb
  obtain ⟨tx, rtx, ttx⟩ := hR.at lb 1 tlb (rfl : h_rs 4 1 = some (401, false)) (by decide)
  have atx : h_ad z lb 1 = tx := h_ad.at rtx
  obtain ⟨un, run, tun⟩ := hR.at lb 0 tlb (rfl : h_rs 4 0 = some (6, false)) (by decide)
  have aun : h_ad z lb 0 = un := h_ad.at run
  obtain ⟨hy, rhy, thy⟩ := hR.at mo 11 tmo (rfl : h_rs 13 11 = some (1311, false)) (by decide)
  have ahy : h_ad z mo 11 = hy := h_ad.at rhy
  obtain ⟨dt, rdt, tdt⟩ := hR.at cp 7 tcp (rfl : h_rs 12 7 = some (3, false)) (by decide)
  have adt : h_ad z cp 7 = dt := h_ad.at rdt
  obtain ⟨dr, rdr, tdr⟩ := hR.at dt 2 tdt (rfl : h_rs 3 2 = some (302, false)) (by decide)
  have adr : h_ad z dt 2 = dr := h_ad.at rdr
  obtain ⟨rl, rrl, trl⟩ := hR.at rd 1 trd (rfl : h_rs 5 1 = some (6, false)) (by decide)
  have arl : h_ad z rd 1 = rl := h_ad.at rrl
  obtain ⟨rn, rrn, trn⟩ := hR.at rl 0 trl (rfl : h_rs 6 0 = some (600, false)) (by decide)
  have arn : h_ad z rl 0 = rn := h_ad.at rrn
  obtain ⟨ro, rro, tro⟩ := hR.at rl 1 trl (rfl : h_rs 6 1 = some (601, false)) (by decide)
  have aro : h_ad z rl 1 = ro := h_ad.at rro
  obtain ⟨rk, rrk, trk⟩ := hR.at dt 0 tdt (rfl : h_rs 3 0 = some (300, false)) (by decide)
  have ark : h_ad z dt 0 = rk := h_ad.at rrk
  rw [alw] at J1
  rw [atb] at J2
  rw [ard, atp, abk, alb, abg, atu, arg] at R_al
  rw [atp, abt, amb] at R_tp
  rw [abk] at R_ck
  rw [ard] at R_fa
  rw [alb, atx, aun, alw, ahy] at R_bk
  rw [adt, adr] at R_dr
  rw [adt] at R_tb
  refine lv_aload_n hx hb dL_law_304 rfl (lv_at hl 2 rfl) ?_
  refine lv_aload_n hx hb dL_law_305 rfl (lv_at hl 3 rfl) ?_
  refine lv_iload_n hx hb dL_law_306 rfl (lv_at hl 0 rfl) ?_
  refine lv_iconst (v := 1) hx hb dL_law_307 (by decide) ?_
  refine lv_iadd hx hb dL_law_308 ?_
  refine lv_topi (fun v1 ev1 => ?_)
  refine va_sld hx hb hSc hbl hbA g.2.1 (h_ix hi0 hi8 hL ev1 (k := 1) (by decide) (by decide) (by decide)) dL_law_309 ?_
  refine lv_topi (fun v2 ev2 => ?_)
  refine lv_aload_n hx hb dL_law_310 rfl (lv_at hl 3 rfl) ?_
  refine lv_iload_n hx hb dL_law_311 rfl (lv_at hl 0 rfl) ?_
  refine lv_iconst (v := 2) hx hb dL_law_312 (by decide) ?_
  refine lv_iadd hx hb dL_law_313 ?_
  refine lv_topi (fun v3 ev3 => ?_)
  refine va_sld hx hb hSc hbl hbA g.2.1 (h_ix hi0 hi8 hL ev3 (k := 2) (by decide) (by decide) (by decide)) dL_law_314 ?_
  refine lv_topi (fun v4 ev4 => ?_)
  obtain ⟨u_, hok, hr, hcl⟩ := R_bk.any (v2.toInt)
  refine vp_callSi (W.runV (As := [.int v2, .int v4]) (rest := []) ⟨hx, hb, hml, hown, hts⟩ (tX11_lawX l E X A z I0 L0 cp tcp v2 (v2.toInt) rfl v4 (v4.toInt) rfl u_ (by rw [alb, aun, atx]; exact hcl)) (cwV 2 hts gL_law_X11_law rfl rfl rfl (by decide +kernel) ⟨Nat.le_of_ble_eq_true rfl, Nat.le_of_ble_eq_true rfl⟩) ⟨h_blind _ _ _ _ _ _ _, h_recv g tcp (by decide) so_12 (q := (RX11, TX11, 8)) rfl, h_pre _ hE hk hX hA hI hR g⟩ rfl rfl hl.1 rfl (lv_room (Nat.le_of_ble_eq_true rfl)) dL_law_315 ⟨show cells + 0 ≤ 600000 by omega, show slots + 0 ≤ 7302250 by omega⟩) (fun rh5 h5 => ?_)
  have pP := h5
  refine lv_pop hx hb dL_law_318 rfl ?_
  refine lv_aload_n hx hb dL_law_319 rfl (lv_at hl 1 rfl) ?_
  refine lv_aload_n hx hb dL_law_320 rfl (lv_at hl 3 rfl) ?_
  refine lv_iload_n hx hb dL_law_321 rfl (lv_at hl 0 rfl) ?_
  refine lv_iconst (v := 1) hx hb dL_law_322 (by decide) ?_
  refine lv_iadd hx hb dL_law_323 ?_
  refine lv_topi (fun v6 ev6 => ?_)
  refine va_sld hx hb hSc hbl hbA g.2.1 (h_ix hi0 hi8 hL ev6 (k := 1) (by decide) (by decide) (by decide)) dL_law_324 ?_
  refine xw_i (v := v2) (by rw [show v6 = v1 from ev6.trans ev1.symm]; exact ev2.symm) ?_
  refine lv_aload_n hx hb dL_law_325 rfl (lv_at hl 3 rfl) ?_
  refine lv_iload_n hx hb dL_law_326 rfl (lv_at hl 0 rfl) ?_
  refine lv_iconst (v := 2) hx hb dL_law_327 (by decide) ?_
  refine lv_iadd hx hb dL_law_328 ?_
  refine lv_topi (fun v8 ev8 => ?_)
  refine va_sld hx hb hSc hbl hbA g.2.1 (h_ix hi0 hi8 hL ev8 (k := 2) (by decide) (by decide) (by decide)) dL_law_329 ?_
  refine xw_i (v := v4) (by rw [show v8 = v3 from ev8.trans ev3.symm]; exact ev4.symm) ?_
  refine vp_callSi (W.runV (As := [.int v2, .int v4]) (rest := []) ⟨hx, hb, hml, hown, hts⟩ (tX12_lawX l E X A z I0 L0 mo tmo v2 (v2.toInt) rfl v4 (v4.toInt) rfl) (cwV 2 hts gL_law_X12_law rfl rfl rfl (by decide +kernel) ⟨Nat.le_of_ble_eq_true rfl, Nat.le_of_ble_eq_true rfl⟩) ⟨h_blind _ _ _ _ _ _ _, h_recv g tmo (by decide) so_13 (q := (RX12, TX12, 51)) rfl, h_pre _ hE hk hX hA hI hR g⟩ rfl rfl hl.1 rfl (lv_room (Nat.le_of_ble_eq_true rfl)) dL_law_330 ⟨show cells + 0 ≤ 600000 by omega, show slots + 0 ≤ 7302250 by omega⟩) (fun rh10 h10 => ?_)
  have qP := h10
  rw [alw, ahy] at qP
  have same := h_law2 hok hr pP qP
  refine lv_pop hx hb dL_law_333 rfl ?_
  refine lv_goto (tgt := 1241) hx hb dL_law_334 (by decide) ?_
  exact W.widen (by omega) (by omega) (kk z I0 L0 _ _ _ ⟨g, hI, hR, tcp, tmo, by rw [alw]; exact J1, by unfold h_J2; rw [atb]; exact J2, hU, by rw [ard, atp, abk, alb, abg, atu, arg]; exact R_al, by rw [atp, abt, amb]; exact R_tp, by rw [abk]; exact R_ck, by rw [ard]; exact R_fa, by rw [alb, atx, aun, alw, ahy]; exact R_bk, by rw [adt, adr]; exact R_dr, by rw [adt]; exact R_tb, by exact R_gb⟩ hl)
set_option maxHeartbeats 8000000 in
set_option maxRecDepth 100000 in
theorem law_5 {p : Program} {l : Launch} {e : Env} {s : State} {m : MethodId} {below : List Frame} {meth : Method} {c : Code} {b L : Nat} {xs : Nat → Int32} (C0 : lw_At p s m meth c b L xs) (hL : L ≤ 4096) {A : Nat → Prop} (hAe : (fun q : Nat => s.heap.size ≤ q) = A) {E : tE} {X : tX} (hk : h_Kr X s) (hX : h_S X A s s.heap) {i : Int32} (hi0 : 0 ≤ i.toInt) (hi8 : i.toInt + 8 ≤ L) {cp mo : Nat} {cells slots : Nat} (hcl : cells ≤ 500000) (hsl : slots ≤ 7000000) {z : tZ} {I0 : tI} {L0 : tL} {H : Heap} {locs : List Loc} {ls : Array Slot} (T : h_T E A s z I0 L0 H locs cp mo) (hl : lv_has ls 4 [(3, .int i), (2, .ref mo), (1, .ref cp), (0, .ref b)]) (kk : ∀ (z : tZ) (I0 : tI) (L0 : tL) (H : Heap) (locs : List Loc) (ls : Array Slot), h_T E A s z I0 L0 H locs cp mo → lv_has ls 4 [(3, .int i), (2, .ref mo), (1, .ref cp), (0, .ref b)] → W p l e room_1 s m #[Value.ref b] below meth c H locs (cells + 3) (slots + 17) (lw_Z below #[Value.ref b] s) (F0 m 1241 ls [])) : W p l e room_1 s m #[Value.ref b] below meth c H locs cells slots (lw_Z below #[Value.ref b] s) (F0 m 337 ls []) := by
  obtain ⟨hx, hb, hr, hml, hown, hts0, hSc, hbl, hlocks, hgv⟩ := id C0
  have hE := xs_E hts0
  have hts : ∀ w ∈ wsL_law, w.before #[Value.ref b] s = true := fun w h => hts0 w (wsL_law_in w h)
  have hA : ∀ q : Nat, s.heap.size ≤ q → A q := fun q h => by rw [← hAe]; exact h
  have hbA : ¬ A b := by rw [← hAe]; exact Nat.not_le.mpr hbl
  obtain ⟨g, hI, hR, tcp, tmo, J1, J2, hU, R_al, R_tp, R_ck, R_fa, R_bk, R_dr, R_tb, R_gb⟩ := T
  unfold h_J2 at J2
  obtain ⟨lw, rlw, tlw⟩ := hR.at mo 10 tmo (rfl : h_rs 13 10 = some (1310, false)) (by decide)
  have alw : h_ad z mo 10 = lw := h_ad.at rlw
  obtain ⟨tb, rtb, ttb⟩ := hR.at mo 32 tmo (rfl : h_rs 13 32 = some (1332, false)) (by decide)
  have atb : h_ad z mo 32 = tb := h_ad.at rtb
  obtain ⟨rd, rrd, trd⟩ := hR.at cp 2 tcp (rfl : h_rs 12 2 = some (5, false)) (by decide)
  have ard : h_ad z cp 2 = rd := h_ad.at rrd
  obtain ⟨tp, rtp, ttp⟩ := hR.at cp 0 tcp (rfl : h_rs 12 0 = some (9, false)) (by decide)
  have atp : h_ad z cp 0 = tp := h_ad.at rtp
  obtain ⟨bk, rbk, tbk⟩ := hR.at cp 3 tcp (rfl : h_rs 12 3 = some (1, false)) (by decide)
  have abk : h_ad z cp 3 = bk := h_ad.at rbk
  obtain ⟨lb, rlb, tlb⟩ := hR.at cp 1 tcp (rfl : h_rs 12 1 = some (4, false)) (by decide)
  have alb : h_ad z cp 1 = lb := h_ad.at rlb
  obtain ⟨bg, rbg, tbg⟩ := hR.at cp 5 tcp (rfl : h_rs 12 5 = some (10, false)) (by decide)
  have abg : h_ad z cp 5 = bg := h_ad.at rbg
  obtain ⟨tu, rtu, ttu⟩ := hR.at cp 4 tcp (rfl : h_rs 12 4 = some (11, false)) (by decide)
  have atu : h_ad z cp 4 = tu := h_ad.at rtu
  obtain ⟨rg, rrg, trg⟩ := hR.at cp 6 tcp (rfl : h_rs 12 6 = some (8, false)) (by decide)
  have arg : h_ad z cp 6 = rg := h_ad.at rrg
  obtain ⟨bt, rbt, tbt⟩ := hR.at tp 0 ttp (rfl : h_rs 9 0 = some (900, false)) (by decide)
  have abt : h_ad z tp 0 = bt := h_ad.at rbt
  obtain ⟨mb, rmb, tmb⟩ := hR.at mo 0 tmo (rfl : h_rs 13 0 = some (1300, false)) (by decide)
  have amb : h_ad z mo 0 = mb := h_ad.at rmb
  obtain ⟨tx, rtx, ttx⟩ := hR.at lb 1 tlb (rfl : h_rs 4 1 = some (401, false)) (by decide)
  have atx : h_ad z lb 1 = tx := h_ad.at rtx
  obtain ⟨un, run, tun⟩ := hR.at lb 0 tlb (rfl : h_rs 4 0 = some (6, false)) (by decide)
  have aun : h_ad z lb 0 = un := h_ad.at run
  obtain ⟨hy, rhy, thy⟩ := hR.at mo 11 tmo (rfl : h_rs 13 11 = some (1311, false)) (by decide)
  have ahy : h_ad z mo 11 = hy := h_ad.at rhy
  obtain ⟨dt, rdt, tdt⟩ := hR.at cp 7 tcp (rfl : h_rs 12 7 = some (3, false)) (by decide)
  have adt : h_ad z cp 7 = dt := h_ad.at rdt
  obtain ⟨dr, rdr, tdr⟩ := hR.at dt 2 tdt (rfl : h_rs 3 2 = some (302, false)) (by decide)
  have adr : h_ad z dt 2 = dr := h_ad.at rdr
  obtain ⟨rl, rrl, trl⟩ := hR.at rd 1 trd (rfl : h_rs 5 1 = some (6, false)) (by decide)
  have arl : h_ad z rd 1 = rl := h_ad.at rrl
  obtain ⟨rn, rrn, trn⟩ := hR.at rl 0 trl (rfl : h_rs 6 0 = some (600, false)) (by decide)
  have arn : h_ad z rl 0 = rn := h_ad.at rrn
  obtain ⟨ro, rro, tro⟩ := hR.at rl 1 trl (rfl : h_rs 6 1 = some (601, false)) (by decide)
  have aro : h_ad z rl 1 = ro := h_ad.at rro
  obtain ⟨rk, rrk, trk⟩ := hR.at dt 0 tdt (rfl : h_rs 3 0 = some (300, false)) (by decide)
  have ark : h_ad z dt 0 = rk := h_ad.at rrk
  rw [alw] at J1
  rw [atb] at J2
  rw [ard, atp, abk, alb, abg, atu, arg] at R_al
  rw [atp, abt, amb] at R_tp
  rw [abk] at R_ck
  rw [ard] at R_fa
  rw [alb, atx, aun, alw, ahy] at R_bk
  rw [adt, adr] at R_dr
  rw [adt] at R_tb
  refine lv_aload_n hx hb dL_law_337 rfl (lv_at hl 2 rfl) ?_
  have hIo := hI
  refine va_calli (va_runV (As := []) (rest := []) ⟨hx, hb, hml, hown, hts⟩ (zX11_playerB l E X A z I0 L0 cp tcp hU) (cwV 0 hts gL_law_X11_player rfl rfl rfl (by decide +kernel) ⟨Nat.le_of_ble_eq_true rfl, Nat.le_of_ble_eq_true rfl⟩) ⟨h_blind _ _ _ _ _ _ _, h_recv g tcp (by decide) so_12 (q := (RX11, TX11, 8)) rfl, h_pre _ hE hk hX hA hI hR g⟩ rfl rfl hl.1 rfl (lv_room (Nat.le_of_ble_eq_true rfl)) dL_law_338 ⟨show cells + 2 ≤ 600000 by omega, show slots + 17 ≤ 7302250 by omega⟩) g.2.1 (fun q _ h => h) (fun q h => h) (fun rh1 u t H1 locs ht hvm h1 hB hz1 hk1 hS => ?_)
  obtain ⟨zn, I2, L3⟩ := u
  obtain ⟨hI, hRn, xh1, qh1, h1⟩ := h1
  have hI : h_I zn I2 := hI
  have hRn : h_R zn := hRn
  have hB : h_B E A zn I2 L3 t := hB
  have xh1 : h_X [(1, 2), (56, 0)] [101] none z _ _ zn I2 L3 := xh1
  have qh1 : h_Q [(1, 2), (56, 0), (7, 0)] none z zn I2 := qh1
  replace J1 : h_J1 (I2 lw) := by rw [show I2 lw = I0 lw from funext (fun k => xh1.I tlw (by decide) (fun h9 => by cases h9) rfl)]; exact J1
  rw [← xh1.I tmo (by decide) (fun h9 => by cases h9) rfl, show I0 tb = I2 tb from funext (fun k => (xh1.I ttb (by decide) (fun h9 => by cases h9) rfl).symm)] at J2
  have oR_al := R_al
  have oR_tp := R_tp
  have oR_ck := R_ck
  have oR_fa := R_fa
  have oR_bk := R_bk
  have oR_dr := R_dr
  have oR_tb := R_tb
  have oR_gb := R_gb
  replace R_al : zn.R rd 0 = some tp ∧ zn.R bk 0 = some lb ∧ zn.R bg 0 = some bk ∧ zn.R bg 1 = some tu ∧ zn.R rg 0 = some bk := ⟨xh1.R trd (by decide) (fun h9 => by cases h9) rfl R_al.1, xh1.R tbk (by decide) (fun h9 => by cases h9) rfl R_al.2.1, xh1.R tbg (by decide) (fun h9 => by cases h9) rfl R_al.2.2.1, xh1.R tbg (by decide) (fun h9 => by cases h9) rfl R_al.2.2.2.1, xh1.R trg (by decide) (fun h9 => by cases h9) rfl R_al.2.2.2.2⟩
  replace R_tp : I2 tp 1 = I2 mo 1 ∧ I2 bt = I2 mb := by rw [show I2 tp 1 = I0 tp 1 from xh1.I ttp (by decide) (fun h9 => by cases h9) rfl, show I2 mo 1 = I0 mo 1 from xh1.I tmo (by decide) (fun h9 => by cases h9) rfl, show I2 bt = I0 bt from funext (fun k => xh1.I tbt (by decide) (fun h9 => by cases h9) rfl), show I2 mb = I0 mb from funext (fun k => xh1.I tmb (by decide) (fun h9 => by cases h9) rfl)]; exact R_tp
  replace R_ck : I2 bk 3 = I2 mo 12 := by rw [show I2 bk 3 = I0 bk 3 from xh1.I tbk (by decide) (fun h9 => by cases h9) rfl, show I2 mo 12 = I0 mo 12 from xh1.I tmo (by decide) (fun h9 => by cases h9) rfl]; exact R_ck
  replace R_fa : I2 rd 2 = I2 mo 8 ∧ I2 rd 3 = I2 mo 9 := by rw [show I2 rd 2 = I0 rd 2 from xh1.I trd (by decide) (fun h9 => by cases h9) rfl, show I2 rd 3 = I0 rd 3 from xh1.I trd (by decide) (fun h9 => by cases h9) rfl, show I2 mo 8 = I0 mo 8 from xh1.I tmo (by decide) (fun h9 => by cases h9) rfl, show I2 mo 9 = I0 mo 9 from xh1.I tmo (by decide) (fun h9 => by cases h9) rfl]; exact R_fa
  replace R_bk : h_bk zn I2 tx un lw hy := R_bk.X hR ttx tun tlw thy xh1 rfl rfl (fun _ => rfl) (fun _ => rfl) (fun _ => rfl) (fun _ => rfl) (fun _ => rfl)
  replace R_dr : (I2 dr (I2 mo 12).toInt.toNat).toInt = (I2 mo 31).toInt ∧ ∀ k : Nat, (I2 mo 12).toInt < (k : Int) → I2 dr k = 0 := by rw [show I2 dr = I0 dr from funext (fun k => xh1.I tdr (by decide) (fun h9 => by cases h9) rfl), show I2 mo 12 = I0 mo 12 from xh1.I tmo (by decide) (fun h9 => by cases h9) rfl, show I2 mo 31 = I0 mo 31 from xh1.I tmo (by decide) (fun h9 => by cases h9) rfl]; exact R_dr
  replace R_tb : I2 dt 1 = I2 mo 30 := by rw [show I2 dt 1 = I0 dt 1 from xh1.I tdt (by decide) (fun h9 => by cases h9) rfl, show I2 mo 30 = I0 mo 30 from xh1.I tmo (by decide) (fun h9 => by cases h9) rfl]; exact R_tb
  have gP := h1.2
  dsimp only at gP
  have gk := fun (J2 : tI) (r2 : Int32) => g_player2 (I2 := J2) (r2 := r2) R_gb hU hR hIo hRn tcp tmo xh1 qh1 (by decide) g_m70 (fun _ => rfl) gP
  have rlw := xh1.R tmo (by decide) (fun h9 => by cases h9) rfl rlw
  have alw := h_ad.at rlw
  have rtb := xh1.R tmo (by decide) (fun h9 => by cases h9) rfl rtb
  have atb := h_ad.at rtb
  have rrd := xh1.R tcp (by decide) (fun h9 => by cases h9) rfl rrd
  have ard := h_ad.at rrd
  have rtp := xh1.R tcp (by decide) (fun h9 => by cases h9) rfl rtp
  have atp := h_ad.at rtp
  have rbk := xh1.R tcp (by decide) (fun h9 => by cases h9) rfl rbk
  have abk := h_ad.at rbk
  have rlb := xh1.R tcp (by decide) (fun h9 => by cases h9) rfl rlb
  have alb := h_ad.at rlb
  have rbg := xh1.R tcp (by decide) (fun h9 => by cases h9) rfl rbg
  have abg := h_ad.at rbg
  have rtu := xh1.R tcp (by decide) (fun h9 => by cases h9) rfl rtu
  have atu := h_ad.at rtu
  have rrg := xh1.R tcp (by decide) (fun h9 => by cases h9) rfl rrg
  have arg := h_ad.at rrg
  have rbt := xh1.R ttp (by decide) (fun h9 => by cases h9) rfl rbt
  have abt := h_ad.at rbt
  have rmb := xh1.R tmo (by decide) (fun h9 => by cases h9) rfl rmb
  have amb := h_ad.at rmb
  have rtx := xh1.R tlb (by decide) (fun h9 => by cases h9) rfl rtx
  have atx := h_ad.at rtx
  have run := xh1.R tlb (by decide) (fun h9 => by cases h9) rfl run
  have aun := h_ad.at run
  have rhy := xh1.R tmo (by decide) (fun h9 => by cases h9) rfl rhy
  have ahy := h_ad.at rhy
  have rdt := xh1.R tcp (by decide) (fun h9 => by cases h9) rfl rdt
  have adt := h_ad.at rdt
  have rdr := xh1.R tdt (by decide) (fun h9 => by cases h9) rfl rdr
  have adr := h_ad.at rdr
  have rrl := xh1.R trd (by decide) (fun h9 => by cases h9) rfl rrl
  have arl := h_ad.at rrl
  have rrn := xh1.R trl (by decide) (fun h9 => by cases h9) rfl rrn
  have arn := h_ad.at rrn
  have rro := xh1.R trl (by decide) (fun h9 => by cases h9) rfl rro
  have aro := h_ad.at rro
  have rrk := xh1.R tdt (by decide) (fun h9 => by cases h9) rfl rrk
  have ark := h_ad.at rrk
  have tlw := xh1.ty tlw (by decide) (fun h9 => by cases h9)
  have ttb := xh1.ty ttb (by decide) (fun h9 => by cases h9)
  have trd := xh1.ty trd (by decide) (fun h9 => by cases h9)
  have ttp := xh1.ty ttp (by decide) (fun h9 => by cases h9)
  have tbk := xh1.ty tbk (by decide) (fun h9 => by cases h9)
  have tlb := xh1.ty tlb (by decide) (fun h9 => by cases h9)
  have tbg := xh1.ty tbg (by decide) (fun h9 => by cases h9)
  have ttu := xh1.ty ttu (by decide) (fun h9 => by cases h9)
  have trg := xh1.ty trg (by decide) (fun h9 => by cases h9)
  have tbt := xh1.ty tbt (by decide) (fun h9 => by cases h9)
  have tmb := xh1.ty tmb (by decide) (fun h9 => by cases h9)
  have ttx := xh1.ty ttx (by decide) (fun h9 => by cases h9)
  have tun := xh1.ty tun (by decide) (fun h9 => by cases h9)
  have thy := xh1.ty thy (by decide) (fun h9 => by cases h9)
  have tdt := xh1.ty tdt (by decide) (fun h9 => by cases h9)
  have tdr := xh1.ty tdr (by decide) (fun h9 => by cases h9)
  have trl := xh1.ty trl (by decide) (fun h9 => by cases h9)
  have trn := xh1.ty trn (by decide) (fun h9 => by cases h9)
  have tro := xh1.ty tro (by decide) (fun h9 => by cases h9)
  have trk := xh1.ty trk (by decide) (fun h9 => by cases h9)
  have tcp := xh1.ty tcp (by decide) (fun h9 => by cases h9)
  have tmo := xh1.ty tmo (by decide) (fun h9 => by cases h9)
  have hR := hRn
  have hU := qh1.1
  rename tZ => z
  replace g := h_after g hB ht hS
  generalize H1 = H at g
  clear hB hk1 hz1 ht hvm hS
  refine lv_pop hx hb dL_law_341 rfl ?_
  refine lv_aload_n hx hb dL_law_342 rfl (lv_at hl 1 rfl) ?_
  have hIo := hI
  refine va_calli (va_runV (As := []) (rest := []) ⟨hx, hb, hml, hown, hts⟩ (tX12_playerB l E X A z I2 L3 mo tmo) (cwV 0 hts gL_law_X12_player rfl rfl rfl (by decide +kernel) ⟨Nat.le_of_ble_eq_true rfl, Nat.le_of_ble_eq_true rfl⟩) ⟨h_blind _ _ _ _ _ _ _, h_recv g tmo (by decide) so_13 (q := (RX12, TX12, 51)) rfl, h_pre _ hE hk hX hA hI hR g⟩ rfl rfl hl.1 rfl (lv_room (Nat.le_of_ble_eq_true rfl)) dL_law_343 ⟨show (cells + 2) + 0 ≤ 600000 by omega, show (slots + 17) + 0 ≤ 7302250 by omega⟩) g.2.1 (fun q _ h => h) (fun q h => h) (fun rh4 I5 t H1 locs ht hvm h4 hB hz1 hk1 hS => ?_)
  obtain ⟨hI, fh4, h4⟩ := h4
  replace J1 : h_J1 (I5 lw) := by rw [show I5 lw = I2 lw from funext (fun k => fh4.at tlw rfl)]; exact J1
  rw [← fh4.at tmo rfl, show I2 tb = I5 tb from funext (fun k => (fh4.at ttb rfl).symm)] at J2
  have oR_al := R_al
  have oR_tp := R_tp
  have oR_ck := R_ck
  have oR_fa := R_fa
  have oR_bk := R_bk
  have oR_dr := R_dr
  have oR_tb := R_tb
  have oR_gb := R_gb
  skip
  replace R_tp : I5 tp 1 = I5 mo 1 ∧ I5 bt = I5 mb := by rw [show I5 tp 1 = I2 tp 1 from fh4.at ttp rfl, show I5 mo 1 = I2 mo 1 from fh4.at tmo rfl, show I5 bt = I2 bt from funext (fun k => fh4.at tbt rfl), show I5 mb = I2 mb from funext (fun k => fh4.at tmb rfl)]; exact R_tp
  replace R_ck : I5 bk 3 = I5 mo 12 := by rw [show I5 bk 3 = I2 bk 3 from fh4.at tbk rfl, show I5 mo 12 = I2 mo 12 from fh4.at tmo rfl]; exact R_ck
  replace R_fa : I5 rd 2 = I5 mo 8 ∧ I5 rd 3 = I5 mo 9 := by rw [show I5 rd 2 = I2 rd 2 from fh4.at trd rfl, show I5 rd 3 = I2 rd 3 from fh4.at trd rfl, show I5 mo 8 = I2 mo 8 from fh4.at tmo rfl, show I5 mo 9 = I2 mo 9 from fh4.at tmo rfl]; exact R_fa
  replace R_bk : h_bk z I5 tx un lw hy := R_bk.F hR ttx tun tlw thy fh4 (fun _ => rfl) (fun _ => rfl) (fun _ => rfl) (fun _ => rfl) (fun _ => rfl)
  replace R_dr : (I5 dr (I5 mo 12).toInt.toNat).toInt = (I5 mo 31).toInt ∧ ∀ k : Nat, (I5 mo 12).toInt < (k : Int) → I5 dr k = 0 := by rw [show I5 dr = I2 dr from funext (fun k => fh4.at tdr rfl), show I5 mo 12 = I2 mo 12 from fh4.at tmo rfl, show I5 mo 31 = I2 mo 31 from fh4.at tmo rfl]; exact R_dr
  replace R_tb : I5 dt 1 = I5 mo 30 := by rw [show I5 dt 1 = I2 dt 1 from fh4.at tdt rfl, show I5 mo 30 = I2 mo 30 from fh4.at tmo rfl]; exact R_tb
  obtain ⟨same, Rn⟩ := gk I5 rh4 h4.2 fh4
  replace R_gb := Rn
  replace g := h_after g hB ht hS
  generalize H1 = H at g
  clear hB hk1 hz1 ht hvm hS
  refine lv_pop hx hb dL_law_346 rfl ?_
  refine lv_goto (tgt := 1241) hx hb dL_law_347 (by decide) ?_
  exact W.widen (by omega) (by omega) (kk z I5 L3 _ _ _ ⟨g, hI, hR, tcp, tmo, by rw [alw]; exact J1, by unfold h_J2; rw [atb]; exact J2, hU, by rw [ard, atp, abk, alb, abg, atu, arg]; exact R_al, by rw [atp, abt, amb]; exact R_tp, by rw [abk]; exact R_ck, by rw [ard]; exact R_fa, by rw [alb, atx, aun, alw, ahy]; exact R_bk, by rw [adt, adr]; exact R_dr, by rw [adt]; exact R_tb, by exact R_gb⟩ hl)
set_option maxHeartbeats 8000000 in
set_option maxRecDepth 100000 in
theorem law_6 {p : Program} {l : Launch} {e : Env} {s : State} {m : MethodId} {below : List Frame} {meth : Method} {c : Code} {b L : Nat} {xs : Nat → Int32} (C0 : lw_At p s m meth c b L xs) (hL : L ≤ 4096) {A : Nat → Prop} (hAe : (fun q : Nat => s.heap.size ≤ q) = A) {E : tE} {X : tX} (hk : h_Kr X s) (hX : h_S X A s s.heap) {i : Int32} (hi0 : 0 ≤ i.toInt) (hi8 : i.toInt + 8 ≤ L) {cp mo : Nat} {cells slots : Nat} (hcl : cells ≤ 500000) (hsl : slots ≤ 7000000) {z : tZ} {I0 : tI} {L0 : tL} {H : Heap} {locs : List Loc} {ls : Array Slot} (T : h_T E A s z I0 L0 H locs cp mo) (hl : lv_has ls 4 [(3, .int i), (2, .ref mo), (1, .ref cp), (0, .ref b)]) (kk : ∀ (z : tZ) (I0 : tI) (L0 : tL) (H : Heap) (locs : List Loc) (ls : Array Slot), h_T E A s z I0 L0 H locs cp mo → lv_has ls 4 [(3, .int i), (2, .ref mo), (1, .ref cp), (0, .ref b)] → W p l e room_1 s m #[Value.ref b] below meth c H locs (cells + 3) (slots + 17) (lw_Z below #[Value.ref b] s) (F0 m 1241 ls [])) : W p l e room_1 s m #[Value.ref b] below meth c H locs cells slots (lw_Z below #[Value.ref b] s) (F0 m 350 ls []) := by
  obtain ⟨hx, hb, hr, hml, hown, hts0, hSc, hbl, hlocks, hgv⟩ := id C0
  have hE := xs_E hts0
  have hts : ∀ w ∈ wsL_law, w.before #[Value.ref b] s = true := fun w h => hts0 w (wsL_law_in w h)
  have hA : ∀ q : Nat, s.heap.size ≤ q → A q := fun q h => by rw [← hAe]; exact h
  have hbA : ¬ A b := by rw [← hAe]; exact Nat.not_le.mpr hbl
  obtain ⟨g, hI, hR, tcp, tmo, J1, J2, hU, R_al, R_tp, R_ck, R_fa, R_bk, R_dr, R_tb, R_gb⟩ := T
  unfold h_J2 at J2
  obtain ⟨lw, rlw, tlw⟩ := hR.at mo 10 tmo (rfl : h_rs 13 10 = some (1310, false)) (by decide)
  have alw : h_ad z mo 10 = lw := h_ad.at rlw
  obtain ⟨tb, rtb, ttb⟩ := hR.at mo 32 tmo (rfl : h_rs 13 32 = some (1332, false)) (by decide)
  have atb : h_ad z mo 32 = tb := h_ad.at rtb
  obtain ⟨rd, rrd, trd⟩ := hR.at cp 2 tcp (rfl : h_rs 12 2 = some (5, false)) (by decide)
  have ard : h_ad z cp 2 = rd := h_ad.at rrd
  obtain ⟨tp, rtp, ttp⟩ := hR.at cp 0 tcp (rfl : h_rs 12 0 = some (9, false)) (by decide)
  have atp : h_ad z cp 0 = tp := h_ad.at rtp
  obtain ⟨bk, rbk, tbk⟩ := hR.at cp 3 tcp (rfl : h_rs 12 3 = some (1, false)) (by decide)
  have abk : h_ad z cp 3 = bk := h_ad.at rbk
  obtain ⟨lb, rlb, tlb⟩ := hR.at cp 1 tcp (rfl : h_rs 12 1 = some (4, false)) (by decide)
  have alb : h_ad z cp 1 = lb := h_ad.at rlb
  obtain ⟨bg, rbg, tbg⟩ := hR.at cp 5 tcp (rfl : h_rs 12 5 = some (10, false)) (by decide)
  have abg : h_ad z cp 5 = bg := h_ad.at rbg
  obtain ⟨tu, rtu, ttu⟩ := hR.at cp 4 tcp (rfl : h_rs 12 4 = some (11, false)) (by decide)
  have atu : h_ad z cp 4 = tu := h_ad.at rtu
  obtain ⟨rg, rrg, trg⟩ := hR.at cp 6 tcp (rfl : h_rs 12 6 = some (8, false)) (by decide)
  have arg : h_ad z cp 6 = rg := h_ad.at rrg
  obtain ⟨bt, rbt, tbt⟩ := hR.at tp 0 ttp (rfl : h_rs 9 0 = some (900, false)) (by decide)
  have abt : h_ad z tp 0 = bt := h_ad.at rbt
  obtain ⟨mb, rmb, tmb⟩ := hR.at mo 0 tmo (rfl : h_rs 13 0 = some (1300, false)) (by decide)
  have amb : h_ad z mo 0 = mb := h_ad.at rmb
  obtain ⟨tx, rtx, ttx⟩ := hR.at lb 1 tlb (rfl : h_rs 4 1 = some (401, false)) (by decide)
  have atx : h_ad z lb 1 = tx := h_ad.at rtx
  obtain ⟨un, run, tun⟩ := hR.at lb 0 tlb (rfl : h_rs 4 0 = some (6, false)) (by decide)
  have aun : h_ad z lb 0 = un := h_ad.at run
  obtain ⟨hy, rhy, thy⟩ := hR.at mo 11 tmo (rfl : h_rs 13 11 = some (1311, false)) (by decide)
  have ahy : h_ad z mo 11 = hy := h_ad.at rhy
  obtain ⟨dt, rdt, tdt⟩ := hR.at cp 7 tcp (rfl : h_rs 12 7 = some (3, false)) (by decide)
  have adt : h_ad z cp 7 = dt := h_ad.at rdt
  obtain ⟨dr, rdr, tdr⟩ := hR.at dt 2 tdt (rfl : h_rs 3 2 = some (302, false)) (by decide)
  have adr : h_ad z dt 2 = dr := h_ad.at rdr
  obtain ⟨rl, rrl, trl⟩ := hR.at rd 1 trd (rfl : h_rs 5 1 = some (6, false)) (by decide)
  have arl : h_ad z rd 1 = rl := h_ad.at rrl
  obtain ⟨rn, rrn, trn⟩ := hR.at rl 0 trl (rfl : h_rs 6 0 = some (600, false)) (by decide)
  have arn : h_ad z rl 0 = rn := h_ad.at rrn
  obtain ⟨ro, rro, tro⟩ := hR.at rl 1 trl (rfl : h_rs 6 1 = some (601, false)) (by decide)
  have aro : h_ad z rl 1 = ro := h_ad.at rro
  obtain ⟨rk, rrk, trk⟩ := hR.at dt 0 tdt (rfl : h_rs 3 0 = some (300, false)) (by decide)
  have ark : h_ad z dt 0 = rk := h_ad.at rrk
  rw [alw] at J1
  rw [atb] at J2
  rw [ard, atp, abk, alb, abg, atu, arg] at R_al
  rw [atp, abt, amb] at R_tp
  rw [abk] at R_ck
  rw [ard] at R_fa
  rw [alb, atx, aun, alw, ahy] at R_bk
  rw [adt, adr] at R_dr
  rw [adt] at R_tb
  refine lv_aload_n hx hb dL_law_350 rfl (lv_at hl 2 rfl) ?_
  refine lv_aload_n hx hb dL_law_351 rfl (lv_at hl 3 rfl) ?_
  refine lv_iload_n hx hb dL_law_352 rfl (lv_at hl 0 rfl) ?_
  refine lv_iconst (v := 1) hx hb dL_law_353 (by decide) ?_
  refine lv_iadd hx hb dL_law_354 ?_
  refine lv_topi (fun v1 ev1 => ?_)
  refine va_sld hx hb hSc hbl hbA g.2.1 (h_ix hi0 hi8 hL ev1 (k := 1) (by decide) (by decide) (by decide)) dL_law_355 ?_
  refine lv_topi (fun v2 ev2 => ?_)
  refine lv_aload_n hx hb dL_law_356 rfl (lv_at hl 3 rfl) ?_
  refine lv_iload_n hx hb dL_law_357 rfl (lv_at hl 0 rfl) ?_
  refine lv_iconst (v := 2) hx hb dL_law_358 (by decide) ?_
  refine lv_iadd hx hb dL_law_359 ?_
  refine lv_topi (fun v3 ev3 => ?_)
  refine va_sld hx hb hSc hbl hbA g.2.1 (h_ix hi0 hi8 hL ev3 (k := 2) (by decide) (by decide) (by decide)) dL_law_360 ?_
  refine lv_topi (fun v4 ev4 => ?_)
  refine lv_aload_n hx hb dL_law_361 rfl (lv_at hl 3 rfl) ?_
  refine lv_iload_n hx hb dL_law_362 rfl (lv_at hl 0 rfl) ?_
  refine lv_iconst (v := 3) hx hb dL_law_363 (by decide) ?_
  refine lv_iadd hx hb dL_law_364 ?_
  refine lv_topi (fun v5 ev5 => ?_)
  refine va_sld hx hb hSc hbl hbA g.2.1 (h_ix hi0 hi8 hL ev5 (k := 3) (by decide) (by decide) (by decide)) dL_law_365 ?_
  refine lv_topi (fun v6 ev6 => ?_)
  refine lv_aload_n hx hb dL_law_366 rfl (lv_at hl 3 rfl) ?_
  refine lv_iload_n hx hb dL_law_367 rfl (lv_at hl 0 rfl) ?_
  refine lv_iconst (v := 4) hx hb dL_law_368 (by decide) ?_
  refine lv_iadd hx hb dL_law_369 ?_
  refine lv_topi (fun v7 ev7 => ?_)
  refine va_sld hx hb hSc hbl hbA g.2.1 (h_ix hi0 hi8 hL ev7 (k := 4) (by decide) (by decide) (by decide)) dL_law_370 ?_
  refine lv_topi (fun v8 ev8 => ?_)
  refine lv_aload_n hx hb dL_law_371 rfl (lv_at hl 3 rfl) ?_
  refine lv_iload_n hx hb dL_law_372 rfl (lv_at hl 0 rfl) ?_
  refine lv_iconst (v := 5) hx hb dL_law_373 (by decide) ?_
  refine lv_iadd hx hb dL_law_374 ?_
  refine lv_topi (fun v9 ev9 => ?_)
  refine va_sld hx hb hSc hbl hbA g.2.1 (h_ix hi0 hi8 hL ev9 (k := 5) (by decide) (by decide) (by decide)) dL_law_375 ?_
  refine lv_topi (fun v10 ev10 => ?_)
  refine lv_aload_n hx hb dL_law_376 rfl (lv_at hl 3 rfl) ?_
  refine lv_iload_n hx hb dL_law_377 rfl (lv_at hl 0 rfl) ?_
  refine lv_bipush (v := 6) hx hb dL_law_378 (by decide) ?_
  refine lv_iadd hx hb dL_law_380 ?_
  refine lv_topi (fun v11 ev11 => ?_)
  refine va_sld hx hb hSc hbl hbA g.2.1 (h_ix hi0 hi8 hL ev11 (k := 6) (by decide) (by decide) (by decide)) dL_law_381 ?_
  refine lv_topi (fun v12 ev12 => ?_)
  refine lv_aload_n hx hb dL_law_382 rfl (lv_at hl 3 rfl) ?_
  refine lv_iload_n hx hb dL_law_383 rfl (lv_at hl 0 rfl) ?_
  refine lv_bipush (v := 7) hx hb dL_law_384 (by decide) ?_
  refine lv_iadd hx hb dL_law_386 ?_
  refine lv_topi (fun v13 ev13 => ?_)
  refine va_sld hx hb hSc hbl hbA g.2.1 (h_ix hi0 hi8 hL ev13 (k := 7) (by decide) (by decide) (by decide)) dL_law_387 ?_
  refine lv_topi (fun v14 ev14 => ?_)
  refine h_nez hx hb dL_law_388 dL_law_391 dL_law_392 dL_law_395 (fun v15 ev15 jv15 => ?_)
  have y0 := hI.rd mo 12 tmo rfl (rfl : h_bd 13 12 = (0, 9))
  obtain ⟨u_, hok, hr, hcl⟩ := R_bk.get (I0 mo 12).toInt y0.1 y0.2
  have hr2 : h_r12 (I0 (h_ad z mo 11)) (I0 (h_ad z mo 10)) (I0 mo 12).toInt u_ := by rw [ahy, alw]; exact hr
  have hob := R_gb.ob hr2
  have hcl2 : ∀ b : Nat, h_of (z.R (h_ad z (h_ad z (h_ad z cp 3) 0) 1)) (h_ad z (h_ad z (h_ad z cp 3) 0) 0) (I0 (h_ad z cp 3) 3).toInt b → h_lw I0 b (h_ad z b 0) (h_ad z b 1) u_ := by rw [abk, h_ad.at R_al.2.1, aun, atx, R_ck]; exact hcl
  refine vp_callSi (W.runV (As := [.int v2, .int v4, .int v6, .int v8, .int v10, .int v12, .int v15]) (rest := []) ⟨hx, hb, hml, hown, hts⟩ (tX11_wrongB l E X A z I0 L0 cp tcp v2 (v2.toInt) rfl v4 (v4.toInt) rfl v6 (v6.toInt) rfl v8 (v8.toInt) rfl v10 (v10.toInt) rfl v12 (v12.toInt) rfl v15 (v15.toInt) rfl (by omega) u_ hcl2 hob R_gb.nn) (cwV 7 hts gL_law_X11_wrong rfl rfl rfl (by decide +kernel) ⟨Nat.le_of_ble_eq_true rfl, Nat.le_of_ble_eq_true rfl⟩) ⟨h_blind _ _ _ _ _ _ _, h_recv g tcp (by decide) so_12 (q := (RX11, TX11, 8)) rfl, h_pre _ hE hk hX hA hI hR g⟩ rfl rfl hl.1 rfl (lv_room (Nat.le_of_ble_eq_true rfl)) dL_law_396 ⟨show cells + 0 ≤ 600000 by omega, show slots + 0 ≤ 7302250 by omega⟩) (fun rh16 h16 => ?_)
  have gck : I0 (h_ad z cp 3) 3 = I0 mo 12 := by rw [abk]; exact R_ck
  have gI := hI
  have gP := h16
  have ger : h_er z I0 I0 := h_er.rf
  refine lv_pop hx hb dL_law_399 rfl ?_
  refine lv_aload_n hx hb dL_law_400 rfl (lv_at hl 1 rfl) ?_
  refine lv_aload_n hx hb dL_law_401 rfl (lv_at hl 3 rfl) ?_
  refine lv_iload_n hx hb dL_law_402 rfl (lv_at hl 0 rfl) ?_
  refine lv_iconst (v := 1) hx hb dL_law_403 (by decide) ?_
  refine lv_iadd hx hb dL_law_404 ?_
  refine lv_topi (fun v17 ev17 => ?_)
  refine va_sld hx hb hSc hbl hbA g.2.1 (h_ix hi0 hi8 hL ev17 (k := 1) (by decide) (by decide) (by decide)) dL_law_405 ?_
  refine xw_i (v := v2) (by rw [show v17 = v1 from ev17.trans ev1.symm]; exact ev2.symm) ?_
  refine lv_aload_n hx hb dL_law_406 rfl (lv_at hl 3 rfl) ?_
  refine lv_iload_n hx hb dL_law_407 rfl (lv_at hl 0 rfl) ?_
  refine lv_iconst (v := 2) hx hb dL_law_408 (by decide) ?_
  refine lv_iadd hx hb dL_law_409 ?_
  refine lv_topi (fun v19 ev19 => ?_)
  refine va_sld hx hb hSc hbl hbA g.2.1 (h_ix hi0 hi8 hL ev19 (k := 2) (by decide) (by decide) (by decide)) dL_law_410 ?_
  refine xw_i (v := v4) (by rw [show v19 = v3 from ev19.trans ev3.symm]; exact ev4.symm) ?_
  refine lv_aload_n hx hb dL_law_411 rfl (lv_at hl 3 rfl) ?_
  refine lv_iload_n hx hb dL_law_412 rfl (lv_at hl 0 rfl) ?_
  refine lv_iconst (v := 3) hx hb dL_law_413 (by decide) ?_
  refine lv_iadd hx hb dL_law_414 ?_
  refine lv_topi (fun v21 ev21 => ?_)
  refine va_sld hx hb hSc hbl hbA g.2.1 (h_ix hi0 hi8 hL ev21 (k := 3) (by decide) (by decide) (by decide)) dL_law_415 ?_
  refine xw_i (v := v6) (by rw [show v21 = v5 from ev21.trans ev5.symm]; exact ev6.symm) ?_
  refine lv_aload_n hx hb dL_law_416 rfl (lv_at hl 3 rfl) ?_
  refine lv_iload_n hx hb dL_law_417 rfl (lv_at hl 0 rfl) ?_
  refine lv_iconst (v := 4) hx hb dL_law_418 (by decide) ?_
  refine lv_iadd hx hb dL_law_419 ?_
  refine lv_topi (fun v23 ev23 => ?_)
  refine va_sld hx hb hSc hbl hbA g.2.1 (h_ix hi0 hi8 hL ev23 (k := 4) (by decide) (by decide) (by decide)) dL_law_420 ?_
  refine xw_i (v := v8) (by rw [show v23 = v7 from ev23.trans ev7.symm]; exact ev8.symm) ?_
  refine lv_aload_n hx hb dL_law_421 rfl (lv_at hl 3 rfl) ?_
  refine lv_iload_n hx hb dL_law_422 rfl (lv_at hl 0 rfl) ?_
  refine lv_iconst (v := 5) hx hb dL_law_423 (by decide) ?_
  refine lv_iadd hx hb dL_law_424 ?_
  refine lv_topi (fun v25 ev25 => ?_)
  refine va_sld hx hb hSc hbl hbA g.2.1 (h_ix hi0 hi8 hL ev25 (k := 5) (by decide) (by decide) (by decide)) dL_law_425 ?_
  refine xw_i (v := v10) (by rw [show v25 = v9 from ev25.trans ev9.symm]; exact ev10.symm) ?_
  refine lv_aload_n hx hb dL_law_426 rfl (lv_at hl 3 rfl) ?_
  refine lv_iload_n hx hb dL_law_427 rfl (lv_at hl 0 rfl) ?_
  refine lv_bipush (v := 6) hx hb dL_law_428 (by decide) ?_
  refine lv_iadd hx hb dL_law_430 ?_
  refine lv_topi (fun v27 ev27 => ?_)
  refine va_sld hx hb hSc hbl hbA g.2.1 (h_ix hi0 hi8 hL ev27 (k := 6) (by decide) (by decide) (by decide)) dL_law_431 ?_
  refine xw_i (v := v12) (by rw [show v27 = v11 from ev27.trans ev11.symm]; exact ev12.symm) ?_
  refine lv_aload_n hx hb dL_law_432 rfl (lv_at hl 3 rfl) ?_
  refine lv_iload_n hx hb dL_law_433 rfl (lv_at hl 0 rfl) ?_
  refine lv_bipush (v := 7) hx hb dL_law_434 (by decide) ?_
  refine lv_iadd hx hb dL_law_436 ?_
  refine lv_topi (fun v29 ev29 => ?_)
  refine va_sld hx hb hSc hbl hbA g.2.1 (h_ix hi0 hi8 hL ev29 (k := 7) (by decide) (by decide) (by decide)) dL_law_437 ?_
  refine xw_i (v := v14) (by rw [show v29 = v13 from ev29.trans ev13.symm]; exact ev14.symm) ?_
  refine h_nez hx hb dL_law_438 dL_law_441 dL_law_442 dL_law_445 (fun v31 ev31 jv31 => ?_)
  rw [show v31 = v15 from ev31.trans ev15.symm]
  refine vp_callSi (W.runV (As := [.int v2, .int v4, .int v6, .int v8, .int v10, .int v12, .int v15]) (rest := []) ⟨hx, hb, hml, hown, hts⟩ (tX12_wrongB l E X A z I0 L0 mo tmo v2 (v2.toInt) rfl v4 (v4.toInt) rfl v6 (v6.toInt) rfl v8 (v8.toInt) rfl v10 (v10.toInt) rfl v12 (v12.toInt) rfl v15 (v15.toInt) rfl (by omega) u_ hr2 hob (R_gb.pb hR gI tcp tmo ger _)) (cwV 7 hts gL_law_X12_wrong rfl rfl rfl (by decide +kernel) ⟨Nat.le_of_ble_eq_true rfl, Nat.le_of_ble_eq_true rfl⟩) ⟨h_blind _ _ _ _ _ _ _, h_recv g tmo (by decide) so_13 (q := (RX12, TX12, 51)) rfl, h_pre _ hE hk hX hA hI hR g⟩ rfl rfl hl.1 rfl (lv_room (Nat.le_of_ble_eq_true rfl)) dL_law_446 ⟨show cells + 0 ≤ 600000 by omega, show slots + 0 ≤ 7302250 by omega⟩) (fun rh32 h32 => ?_)
  have same := g_wrong2 (c := 0) (y := 0) R_gb hU hR gI tcp tmo gck gP h32
  refine lv_pop hx hb dL_law_449 rfl ?_
  refine lv_goto (tgt := 1241) hx hb dL_law_450 (by decide) ?_
  exact W.widen (by omega) (by omega) (kk z I0 L0 _ _ _ ⟨g, hI, hR, tcp, tmo, by rw [alw]; exact J1, by unfold h_J2; rw [atb]; exact J2, hU, by rw [ard, atp, abk, alb, abg, atu, arg]; exact R_al, by rw [atp, abt, amb]; exact R_tp, by rw [abk]; exact R_ck, by rw [ard]; exact R_fa, by rw [alb, atx, aun, alw, ahy]; exact R_bk, by rw [adt, adr]; exact R_dr, by rw [adt]; exact R_tb, by exact R_gb⟩ hl)
set_option maxHeartbeats 8000000 in
set_option maxRecDepth 100000 in
theorem law_7 {p : Program} {l : Launch} {e : Env} {s : State} {m : MethodId} {below : List Frame} {meth : Method} {c : Code} {b L : Nat} {xs : Nat → Int32} (C0 : lw_At p s m meth c b L xs) (hL : L ≤ 4096) {A : Nat → Prop} (hAe : (fun q : Nat => s.heap.size ≤ q) = A) {E : tE} {X : tX} (hk : h_Kr X s) (hX : h_S X A s s.heap) {i : Int32} (hi0 : 0 ≤ i.toInt) (hi8 : i.toInt + 8 ≤ L) {cp mo : Nat} {cells slots : Nat} (hcl : cells ≤ 500000) (hsl : slots ≤ 7000000) {z : tZ} {I0 : tI} {L0 : tL} {H : Heap} {locs : List Loc} {ls : Array Slot} (T : h_T E A s z I0 L0 H locs cp mo) (hl : lv_has ls 4 [(3, .int i), (2, .ref mo), (1, .ref cp), (0, .ref b)]) (kk : ∀ (z : tZ) (I0 : tI) (L0 : tL) (H : Heap) (locs : List Loc) (ls : Array Slot), h_T E A s z I0 L0 H locs cp mo → lv_has ls 4 [(3, .int i), (2, .ref mo), (1, .ref cp), (0, .ref b)] → W p l e room_1 s m #[Value.ref b] below meth c H locs (cells + 3) (slots + 17) (lw_Z below #[Value.ref b] s) (F0 m 1241 ls [])) : W p l e room_1 s m #[Value.ref b] below meth c H locs cells slots (lw_Z below #[Value.ref b] s) (F0 m 453 ls []) := by
  obtain ⟨hx, hb, hr, hml, hown, hts0, hSc, hbl, hlocks, hgv⟩ := id C0
  have hE := xs_E hts0
  have hts : ∀ w ∈ wsL_law, w.before #[Value.ref b] s = true := fun w h => hts0 w (wsL_law_in w h)
  have hA : ∀ q : Nat, s.heap.size ≤ q → A q := fun q h => by rw [← hAe]; exact h
  have hbA : ¬ A b := by rw [← hAe]; exact Nat.not_le.mpr hbl
  obtain ⟨g, hI, hR, tcp, tmo, J1, J2, hU, R_al, R_tp, R_ck, R_fa, R_bk, R_dr, R_tb, R_gb⟩ := T
  unfold h_J2 at J2
  obtain ⟨lw, rlw, tlw⟩ := hR.at mo 10 tmo (rfl : h_rs 13 10 = some (1310, false)) (by decide)
  have alw : h_ad z mo 10 = lw := h_ad.at rlw
  obtain ⟨tb, rtb, ttb⟩ := hR.at mo 32 tmo (rfl : h_rs 13 32 = some (1332, false)) (by decide)
  have atb : h_ad z mo 32 = tb := h_ad.at rtb
  obtain ⟨rd, rrd, trd⟩ := hR.at cp 2 tcp (rfl : h_rs 12 2 = some (5, false)) (by decide)
  have ard : h_ad z cp 2 = rd := h_ad.at rrd
  obtain ⟨tp, rtp, ttp⟩ := hR.at cp 0 tcp (rfl : h_rs 12 0 = some (9, false)) (by decide)
  have atp : h_ad z cp 0 = tp := h_ad.at rtp
  obtain ⟨bk, rbk, tbk⟩ := hR.at cp 3 tcp (rfl : h_rs 12 3 = some (1, false)) (by decide)
  have abk : h_ad z cp 3 = bk := h_ad.at rbk
  obtain ⟨lb, rlb, tlb⟩ := hR.at cp 1 tcp (rfl : h_rs 12 1 = some (4, false)) (by decide)
  have alb : h_ad z cp 1 = lb := h_ad.at rlb
  obtain ⟨bg, rbg, tbg⟩ := hR.at cp 5 tcp (rfl : h_rs 12 5 = some (10, false)) (by decide)
  have abg : h_ad z cp 5 = bg := h_ad.at rbg
  obtain ⟨tu, rtu, ttu⟩ := hR.at cp 4 tcp (rfl : h_rs 12 4 = some (11, false)) (by decide)
  have atu : h_ad z cp 4 = tu := h_ad.at rtu
  obtain ⟨rg, rrg, trg⟩ := hR.at cp 6 tcp (rfl : h_rs 12 6 = some (8, false)) (by decide)
  have arg : h_ad z cp 6 = rg := h_ad.at rrg
  obtain ⟨bt, rbt, tbt⟩ := hR.at tp 0 ttp (rfl : h_rs 9 0 = some (900, false)) (by decide)
  have abt : h_ad z tp 0 = bt := h_ad.at rbt
  obtain ⟨mb, rmb, tmb⟩ := hR.at mo 0 tmo (rfl : h_rs 13 0 = some (1300, false)) (by decide)
  have amb : h_ad z mo 0 = mb := h_ad.at rmb
  obtain ⟨tx, rtx, ttx⟩ := hR.at lb 1 tlb (rfl : h_rs 4 1 = some (401, false)) (by decide)
  have atx : h_ad z lb 1 = tx := h_ad.at rtx
  obtain ⟨un, run, tun⟩ := hR.at lb 0 tlb (rfl : h_rs 4 0 = some (6, false)) (by decide)
  have aun : h_ad z lb 0 = un := h_ad.at run
  obtain ⟨hy, rhy, thy⟩ := hR.at mo 11 tmo (rfl : h_rs 13 11 = some (1311, false)) (by decide)
  have ahy : h_ad z mo 11 = hy := h_ad.at rhy
  obtain ⟨dt, rdt, tdt⟩ := hR.at cp 7 tcp (rfl : h_rs 12 7 = some (3, false)) (by decide)
  have adt : h_ad z cp 7 = dt := h_ad.at rdt
  obtain ⟨dr, rdr, tdr⟩ := hR.at dt 2 tdt (rfl : h_rs 3 2 = some (302, false)) (by decide)
  have adr : h_ad z dt 2 = dr := h_ad.at rdr
  obtain ⟨rl, rrl, trl⟩ := hR.at rd 1 trd (rfl : h_rs 5 1 = some (6, false)) (by decide)
  have arl : h_ad z rd 1 = rl := h_ad.at rrl
  obtain ⟨rn, rrn, trn⟩ := hR.at rl 0 trl (rfl : h_rs 6 0 = some (600, false)) (by decide)
  have arn : h_ad z rl 0 = rn := h_ad.at rrn
  obtain ⟨ro, rro, tro⟩ := hR.at rl 1 trl (rfl : h_rs 6 1 = some (601, false)) (by decide)
  have aro : h_ad z rl 1 = ro := h_ad.at rro
  obtain ⟨rk, rrk, trk⟩ := hR.at dt 0 tdt (rfl : h_rs 3 0 = some (300, false)) (by decide)
  have ark : h_ad z dt 0 = rk := h_ad.at rrk
  rw [alw] at J1
  rw [atb] at J2
  rw [ard, atp, abk, alb, abg, atu, arg] at R_al
  rw [atp, abt, amb] at R_tp
  rw [abk] at R_ck
  rw [ard] at R_fa
  rw [alb, atx, aun, alw, ahy] at R_bk
  rw [adt, adr] at R_dr
  rw [adt] at R_tb
  refine lv_aload_n hx hb dL_law_453 rfl (lv_at hl 2 rfl) ?_
  refine lv_aload_n hx hb dL_law_454 rfl (lv_at hl 3 rfl) ?_
  refine lv_iload_n hx hb dL_law_455 rfl (lv_at hl 0 rfl) ?_
  refine lv_iconst (v := 1) hx hb dL_law_456 (by decide) ?_
  refine lv_iadd hx hb dL_law_457 ?_
  refine lv_topi (fun v1 ev1 => ?_)
  refine va_sld hx hb hSc hbl hbA g.2.1 (h_ix hi0 hi8 hL ev1 (k := 1) (by decide) (by decide) (by decide)) dL_law_458 ?_
  refine lv_topi (fun v2 ev2 => ?_)
  refine lv_aload_n hx hb dL_law_459 rfl (lv_at hl 3 rfl) ?_
  refine lv_iload_n hx hb dL_law_460 rfl (lv_at hl 0 rfl) ?_
  refine lv_iconst (v := 2) hx hb dL_law_461 (by decide) ?_
  refine lv_iadd hx hb dL_law_462 ?_
  refine lv_topi (fun v3 ev3 => ?_)
  refine va_sld hx hb hSc hbl hbA g.2.1 (h_ix hi0 hi8 hL ev3 (k := 2) (by decide) (by decide) (by decide)) dL_law_463 ?_
  refine lv_topi (fun v4 ev4 => ?_)
  refine lv_aload_n hx hb dL_law_464 rfl (lv_at hl 3 rfl) ?_
  refine lv_iload_n hx hb dL_law_465 rfl (lv_at hl 0 rfl) ?_
  refine lv_iconst (v := 3) hx hb dL_law_466 (by decide) ?_
  refine lv_iadd hx hb dL_law_467 ?_
  refine lv_topi (fun v5 ev5 => ?_)
  refine va_sld hx hb hSc hbl hbA g.2.1 (h_ix hi0 hi8 hL ev5 (k := 3) (by decide) (by decide) (by decide)) dL_law_468 ?_
  refine lv_topi (fun v6 ev6 => ?_)
  refine lv_aload_n hx hb dL_law_469 rfl (lv_at hl 3 rfl) ?_
  refine lv_iload_n hx hb dL_law_470 rfl (lv_at hl 0 rfl) ?_
  refine lv_iconst (v := 4) hx hb dL_law_471 (by decide) ?_
  refine lv_iadd hx hb dL_law_472 ?_
  refine lv_topi (fun v7 ev7 => ?_)
  refine va_sld hx hb hSc hbl hbA g.2.1 (h_ix hi0 hi8 hL ev7 (k := 4) (by decide) (by decide) (by decide)) dL_law_473 ?_
  refine lv_topi (fun v8 ev8 => ?_)
  refine lv_aload_n hx hb dL_law_474 rfl (lv_at hl 3 rfl) ?_
  refine lv_iload_n hx hb dL_law_475 rfl (lv_at hl 0 rfl) ?_
  refine lv_iconst (v := 5) hx hb dL_law_476 (by decide) ?_
  refine lv_iadd hx hb dL_law_477 ?_
  refine lv_topi (fun v9 ev9 => ?_)
  refine va_sld hx hb hSc hbl hbA g.2.1 (h_ix hi0 hi8 hL ev9 (k := 5) (by decide) (by decide) (by decide)) dL_law_478 ?_
  refine lv_topi (fun v10 ev10 => ?_)
  refine lv_aload_n hx hb dL_law_479 rfl (lv_at hl 3 rfl) ?_
  refine lv_iload_n hx hb dL_law_480 rfl (lv_at hl 0 rfl) ?_
  refine lv_bipush (v := 6) hx hb dL_law_481 (by decide) ?_
  refine lv_iadd hx hb dL_law_483 ?_
  refine lv_topi (fun v11 ev11 => ?_)
  refine va_sld hx hb hSc hbl hbA g.2.1 (h_ix hi0 hi8 hL ev11 (k := 6) (by decide) (by decide) (by decide)) dL_law_484 ?_
  refine lv_topi (fun v12 ev12 => ?_)
  refine lv_aload_n hx hb dL_law_485 rfl (lv_at hl 3 rfl) ?_
  refine lv_iload_n hx hb dL_law_486 rfl (lv_at hl 0 rfl) ?_
  refine lv_bipush (v := 7) hx hb dL_law_487 (by decide) ?_
  refine lv_iadd hx hb dL_law_489 ?_
  refine lv_topi (fun v13 ev13 => ?_)
  refine va_sld hx hb hSc hbl hbA g.2.1 (h_ix hi0 hi8 hL ev13 (k := 7) (by decide) (by decide) (by decide)) dL_law_490 ?_
  refine lv_topi (fun v14 ev14 => ?_)
  refine h_nez hx hb dL_law_491 dL_law_494 dL_law_495 dL_law_498 (fun v15 ev15 jv15 => ?_)
  have y0 := hI.rd mo 12 tmo rfl (rfl : h_bd 13 12 = (0, 9))
  obtain ⟨u_, hok, hr, hcl⟩ := R_bk.get (I0 mo 12).toInt y0.1 y0.2
  have hr2 : h_r12 (I0 (h_ad z mo 11)) (I0 (h_ad z mo 10)) (I0 mo 12).toInt u_ := by rw [ahy, alw]; exact hr
  have hob := R_gb.ob hr2
  have hcl2 : ∀ b : Nat, h_of (z.R (h_ad z (h_ad z (h_ad z cp 3) 0) 1)) (h_ad z (h_ad z (h_ad z cp 3) 0) 0) (I0 (h_ad z cp 3) 3).toInt b → h_lw I0 b (h_ad z b 0) (h_ad z b 1) u_ := by rw [abk, h_ad.at R_al.2.1, aun, atx, R_ck]; exact hcl
  have hIo := hI
  refine va_calli (va_runV (As := [.int v2, .int v4, .int v6, .int v8, .int v10, .int v12, .int v15]) (rest := []) ⟨hx, hb, hml, hown, hts⟩ (tX11_signB l E X A z I0 L0 cp tcp v2 (v2.toInt) rfl v4 (v4.toInt) rfl v6 (v6.toInt) rfl v8 (v8.toInt) rfl v10 (v10.toInt) rfl v12 (v12.toInt) rfl v15 (v15.toInt) rfl (by omega) u_ hcl2 hob R_gb.nn) (cwV 7 hts gL_law_X11_sign rfl rfl rfl (by decide +kernel) ⟨Nat.le_of_ble_eq_true rfl, Nat.le_of_ble_eq_true rfl⟩) ⟨h_blind _ _ _ _ _ _ _, h_recv g tcp (by decide) so_12 (q := (RX11, TX11, 8)) rfl, h_pre _ hE hk hX hA hI hR g⟩ rfl rfl hl.1 rfl (lv_room (Nat.le_of_ble_eq_true rfl)) dL_law_499 ⟨show cells + 0 ≤ 600000 by omega, show slots + 0 ≤ 7302250 by omega⟩) g.2.1 (fun q _ h => h) (fun q h => h) (fun rh16 I17 t H1 locs ht hvm h16 hB hz1 hk1 hS => ?_)
  obtain ⟨hI, fh16, h16⟩ := h16
  replace J1 : h_J1 (I17 lw) := by rw [show I17 lw = I0 lw from funext (fun k => fh16.at tlw rfl)]; exact J1
  rw [← fh16.at tmo rfl, show I0 tb = I17 tb from funext (fun k => (fh16.at ttb rfl).symm)] at J2
  have oR_al := R_al
  have oR_tp := R_tp
  have oR_ck := R_ck
  have oR_fa := R_fa
  have oR_bk := R_bk
  have oR_dr := R_dr
  have oR_tb := R_tb
  have oR_gb := R_gb
  skip
  replace R_tp : I17 tp 1 = I17 mo 1 ∧ I17 bt = I17 mb := by rw [show I17 tp 1 = I0 tp 1 from fh16.at ttp rfl, show I17 mo 1 = I0 mo 1 from fh16.at tmo rfl, show I17 bt = I0 bt from funext (fun k => fh16.at tbt rfl), show I17 mb = I0 mb from funext (fun k => fh16.at tmb rfl)]; exact R_tp
  replace R_ck : I17 bk 3 = I17 mo 12 := by rw [show I17 bk 3 = I0 bk 3 from fh16.at tbk rfl, show I17 mo 12 = I0 mo 12 from fh16.at tmo rfl]; exact R_ck
  replace R_fa : I17 rd 2 = I17 mo 8 ∧ I17 rd 3 = I17 mo 9 := by rw [show I17 rd 2 = I0 rd 2 from fh16.at trd rfl, show I17 rd 3 = I0 rd 3 from fh16.at trd rfl, show I17 mo 8 = I0 mo 8 from fh16.at tmo rfl, show I17 mo 9 = I0 mo 9 from fh16.at tmo rfl]; exact R_fa
  replace R_bk : h_bk z I17 tx un lw hy := R_bk.F hR ttx tun tlw thy fh16 (fun _ => rfl) (fun _ => rfl) (fun _ => rfl) (fun _ => rfl) (fun _ => rfl)
  replace R_dr : (I17 dr (I17 mo 12).toInt.toNat).toInt = (I17 mo 31).toInt ∧ ∀ k : Nat, (I17 mo 12).toInt < (k : Int) → I17 dr k = 0 := by rw [show I17 dr = I0 dr from funext (fun k => fh16.at tdr rfl), show I17 mo 12 = I0 mo 12 from fh16.at tmo rfl, show I17 mo 31 = I0 mo 31 from fh16.at tmo rfl]; exact R_dr
  replace R_tb : I17 dt 1 = I17 mo 30 := by rw [show I17 dt 1 = I0 dt 1 from fh16.at tdt rfl, show I17 mo 30 = I0 mo 30 from fh16.at tmo rfl]; exact R_tb
  have gck : I0 (h_ad z cp 3) 3 = I0 mo 12 := by rw [abk]; exact oR_ck
  have gI := hIo
  have gP := h16
  have gF := fh16
  have ger : h_er z I0 I17 := fun a h9 => fh16.ref (by decide) rfl h9
  replace hr2 := ger.r12 hR tmo hr2
  replace g := h_after g hB ht hS
  generalize H1 = H at g
  clear hB hk1 hz1 ht hvm hS
  refine lv_pop hx hb dL_law_502 rfl ?_
  refine lv_aload_n hx hb dL_law_503 rfl (lv_at hl 1 rfl) ?_
  refine lv_aload_n hx hb dL_law_504 rfl (lv_at hl 3 rfl) ?_
  refine lv_iload_n hx hb dL_law_505 rfl (lv_at hl 0 rfl) ?_
  refine lv_iconst (v := 1) hx hb dL_law_506 (by decide) ?_
  refine lv_iadd hx hb dL_law_507 ?_
  refine lv_topi (fun v18 ev18 => ?_)
  refine va_sld hx hb hSc hbl hbA g.2.1 (h_ix hi0 hi8 hL ev18 (k := 1) (by decide) (by decide) (by decide)) dL_law_508 ?_
  refine xw_i (v := v2) (by rw [show v18 = v1 from ev18.trans ev1.symm]; exact ev2.symm) ?_
  refine lv_aload_n hx hb dL_law_509 rfl (lv_at hl 3 rfl) ?_
  refine lv_iload_n hx hb dL_law_510 rfl (lv_at hl 0 rfl) ?_
  refine lv_iconst (v := 2) hx hb dL_law_511 (by decide) ?_
  refine lv_iadd hx hb dL_law_512 ?_
  refine lv_topi (fun v20 ev20 => ?_)
  refine va_sld hx hb hSc hbl hbA g.2.1 (h_ix hi0 hi8 hL ev20 (k := 2) (by decide) (by decide) (by decide)) dL_law_513 ?_
  refine xw_i (v := v4) (by rw [show v20 = v3 from ev20.trans ev3.symm]; exact ev4.symm) ?_
  refine lv_aload_n hx hb dL_law_514 rfl (lv_at hl 3 rfl) ?_
  refine lv_iload_n hx hb dL_law_515 rfl (lv_at hl 0 rfl) ?_
  refine lv_iconst (v := 3) hx hb dL_law_516 (by decide) ?_
  refine lv_iadd hx hb dL_law_517 ?_
  refine lv_topi (fun v22 ev22 => ?_)
  refine va_sld hx hb hSc hbl hbA g.2.1 (h_ix hi0 hi8 hL ev22 (k := 3) (by decide) (by decide) (by decide)) dL_law_518 ?_
  refine xw_i (v := v6) (by rw [show v22 = v5 from ev22.trans ev5.symm]; exact ev6.symm) ?_
  refine lv_aload_n hx hb dL_law_519 rfl (lv_at hl 3 rfl) ?_
  refine lv_iload_n hx hb dL_law_520 rfl (lv_at hl 0 rfl) ?_
  refine lv_iconst (v := 4) hx hb dL_law_521 (by decide) ?_
  refine lv_iadd hx hb dL_law_522 ?_
  refine lv_topi (fun v24 ev24 => ?_)
  refine va_sld hx hb hSc hbl hbA g.2.1 (h_ix hi0 hi8 hL ev24 (k := 4) (by decide) (by decide) (by decide)) dL_law_523 ?_
  refine xw_i (v := v8) (by rw [show v24 = v7 from ev24.trans ev7.symm]; exact ev8.symm) ?_
  refine lv_aload_n hx hb dL_law_524 rfl (lv_at hl 3 rfl) ?_
  refine lv_iload_n hx hb dL_law_525 rfl (lv_at hl 0 rfl) ?_
  refine lv_iconst (v := 5) hx hb dL_law_526 (by decide) ?_
  refine lv_iadd hx hb dL_law_527 ?_
  refine lv_topi (fun v26 ev26 => ?_)
  refine va_sld hx hb hSc hbl hbA g.2.1 (h_ix hi0 hi8 hL ev26 (k := 5) (by decide) (by decide) (by decide)) dL_law_528 ?_
  refine xw_i (v := v10) (by rw [show v26 = v9 from ev26.trans ev9.symm]; exact ev10.symm) ?_
  refine lv_aload_n hx hb dL_law_529 rfl (lv_at hl 3 rfl) ?_
  refine lv_iload_n hx hb dL_law_530 rfl (lv_at hl 0 rfl) ?_
  refine lv_bipush (v := 6) hx hb dL_law_531 (by decide) ?_
  refine lv_iadd hx hb dL_law_533 ?_
  refine lv_topi (fun v28 ev28 => ?_)
  refine va_sld hx hb hSc hbl hbA g.2.1 (h_ix hi0 hi8 hL ev28 (k := 6) (by decide) (by decide) (by decide)) dL_law_534 ?_
  refine xw_i (v := v12) (by rw [show v28 = v11 from ev28.trans ev11.symm]; exact ev12.symm) ?_
  refine lv_aload_n hx hb dL_law_535 rfl (lv_at hl 3 rfl) ?_
  refine lv_iload_n hx hb dL_law_536 rfl (lv_at hl 0 rfl) ?_
  refine lv_bipush (v := 7) hx hb dL_law_537 (by decide) ?_
  refine lv_iadd hx hb dL_law_539 ?_
  refine lv_topi (fun v30 ev30 => ?_)
  refine va_sld hx hb hSc hbl hbA g.2.1 (h_ix hi0 hi8 hL ev30 (k := 7) (by decide) (by decide) (by decide)) dL_law_540 ?_
  refine xw_i (v := v14) (by rw [show v30 = v13 from ev30.trans ev13.symm]; exact ev14.symm) ?_
  refine h_nez hx hb dL_law_541 dL_law_544 dL_law_545 dL_law_548 (fun v32 ev32 jv32 => ?_)
  rw [show v32 = v15 from ev32.trans ev15.symm]
  have hIo := hI
  refine va_calli (va_runV (As := [.int v2, .int v4, .int v6, .int v8, .int v10, .int v12, .int v15]) (rest := []) ⟨hx, hb, hml, hown, hts⟩ (tX12_signB l E X A z I17 L0 mo tmo v2 (v2.toInt) rfl v4 (v4.toInt) rfl v6 (v6.toInt) rfl v8 (v8.toInt) rfl v10 (v10.toInt) rfl v12 (v12.toInt) rfl v15 (v15.toInt) rfl (by omega) u_ hr2 hob (R_gb.pb hR gI tcp tmo ger _)) (cwV 7 hts gL_law_X12_sign rfl rfl rfl (by decide +kernel) ⟨Nat.le_of_ble_eq_true rfl, Nat.le_of_ble_eq_true rfl⟩) ⟨h_blind _ _ _ _ _ _ _, h_recv g tmo (by decide) so_13 (q := (RX12, TX12, 51)) rfl, h_pre _ hE hk hX hA hI hR g⟩ rfl rfl hl.1 rfl (lv_room (Nat.le_of_ble_eq_true rfl)) dL_law_549 ⟨show cells + 0 ≤ 600000 by omega, show slots + 0 ≤ 7302250 by omega⟩) g.2.1 (fun q _ h => h) (fun q h => h) (fun rh33 I34 t H1 locs ht hvm h33 hB hz1 hk1 hS => ?_)
  obtain ⟨hI, fh33, h33⟩ := h33
  replace J1 : h_J1 (I34 lw) := by rw [show I34 lw = I17 lw from funext (fun k => fh33.at tlw rfl)]; exact J1
  rw [← fh33.at tmo rfl, show I17 tb = I34 tb from funext (fun k => (fh33.at ttb rfl).symm)] at J2
  have oR_al := R_al
  have oR_tp := R_tp
  have oR_ck := R_ck
  have oR_fa := R_fa
  have oR_bk := R_bk
  have oR_dr := R_dr
  have oR_tb := R_tb
  have oR_gb := R_gb
  skip
  replace R_tp : I34 tp 1 = I34 mo 1 ∧ I34 bt = I34 mb := by rw [show I34 tp 1 = I17 tp 1 from fh33.at ttp rfl, show I34 mo 1 = I17 mo 1 from fh33.at tmo rfl, show I34 bt = I17 bt from funext (fun k => fh33.at tbt rfl), show I34 mb = I17 mb from funext (fun k => fh33.at tmb rfl)]; exact R_tp
  replace R_ck : I34 bk 3 = I34 mo 12 := by rw [show I34 bk 3 = I17 bk 3 from fh33.at tbk rfl, show I34 mo 12 = I17 mo 12 from fh33.at tmo rfl]; exact R_ck
  replace R_fa : I34 rd 2 = I34 mo 8 ∧ I34 rd 3 = I34 mo 9 := by rw [show I34 rd 2 = I17 rd 2 from fh33.at trd rfl, show I34 rd 3 = I17 rd 3 from fh33.at trd rfl, show I34 mo 8 = I17 mo 8 from fh33.at tmo rfl, show I34 mo 9 = I17 mo 9 from fh33.at tmo rfl]; exact R_fa
  replace R_bk : h_bk z I34 tx un lw hy := R_bk.F hR ttx tun tlw thy fh33 (fun _ => rfl) (fun _ => rfl) (fun _ => rfl) (fun _ => rfl) (fun _ => rfl)
  replace R_dr : (I34 dr (I34 mo 12).toInt.toNat).toInt = (I34 mo 31).toInt ∧ ∀ k : Nat, (I34 mo 12).toInt < (k : Int) → I34 dr k = 0 := by rw [show I34 dr = I17 dr from funext (fun k => fh33.at tdr rfl), show I34 mo 12 = I17 mo 12 from fh33.at tmo rfl, show I34 mo 31 = I17 mo 31 from fh33.at tmo rfl]; exact R_dr
  replace R_tb : I34 dt 1 = I34 mo 30 := by rw [show I34 dt 1 = I17 dt 1 from fh33.at tdt rfl, show I34 mo 30 = I17 mo 30 from fh33.at tmo rfl]; exact R_tb
  obtain ⟨same, Rn⟩ := g_sign2 R_gb hU hR gI tcp tmo gck rfl rfl rfl rfl rfl rfl gP gF h33 fh33
  replace R_gb := Rn
  replace g := h_after g hB ht hS
  generalize H1 = H at g
  clear hB hk1 hz1 ht hvm hS
  refine lv_pop hx hb dL_law_552 rfl ?_
  refine lv_goto (tgt := 1241) hx hb dL_law_553 (by decide) ?_
  exact W.widen (by omega) (by omega) (kk z I34 L0 _ _ _ ⟨g, hI, hR, tcp, tmo, by rw [alw]; exact J1, by unfold h_J2; rw [atb]; exact J2, hU, by rw [ard, atp, abk, alb, abg, atu, arg]; exact R_al, by rw [atp, abt, amb]; exact R_tp, by rw [abk]; exact R_ck, by rw [ard]; exact R_fa, by rw [alb, atx, aun, alw, ahy]; exact R_bk, by rw [adt, adr]; exact R_dr, by rw [adt]; exact R_tb, by exact R_gb⟩ hl)

