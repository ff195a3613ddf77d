set_option maxHeartbeats 8000000 in
set_option maxRecDepth 100000 in
theorem law_24 {p : Program} {l : Launch} {e : Env} {s : State} {m : MethodId} {below : List Frame} {meth : Method} {c : Code} {b L : Nat} {xs : Nat → Int32} (C0 : lw_At p s m meth c b L xs) (hL : L ≤ 4096) {A : Nat → Prop} (hAe : (fun q : Nat => s.heap.size ≤ q) = A) {E : tE} {X : tX} (hk : h_Kr X s) (hX : h_S X A s s.heap) {i : Int32} (hi0 : 0 ≤ i.toInt) (hi8 : i.toInt + 8 ≤ L) {cp mo : Nat} {cells slots : Nat} (hcl : cells ≤ 500000) (hsl : slots ≤ 7000000) {z : tZ} {I0 : tI} {L0 : tL} {H : Heap} {locs : List Loc} {ls : Array Slot} (T : h_T E A s z I0 L0 H locs cp mo) (hl : lv_has ls 4 [(3, .int i), (2, .ref mo), (1, .ref cp), (0, .ref b)]) (kk : ∀ (z : tZ) (I0 : tI) (L0 : tL) (H : Heap) (locs : List Loc) (ls : Array Slot), h_T E A s z I0 L0 H locs cp mo → lv_has ls 4 [(3, .int i), (2, .ref mo), (1, .ref cp), (0, .ref b)] → W p l e room_1 s m #[Value.ref b] below meth c H locs (cells + 3) (slots + 17) (lw_Z below #[Value.ref b] s) (F0 m 1241 ls [])) : W p l e room_1 s m #[Value.ref b] below meth c H locs cells slots (lw_Z below #[Value.ref b] s) (F0 m 1020 ls []) := by
  obtain ⟨hx, hb, hr, hml, hown, hts0, hSc, hbl, hlocks, hgv⟩ := id C0
  have hE := xs_E hts0
  have hts : ∀ w ∈ wsL_law, w.before #[Value.ref b] s = true := fun w h => hts0 w (wsL_law_in w h)
  have hA : ∀ q : Nat, s.heap.size ≤ q → A q := fun q h => by rw [← hAe]; exact h
  have hbA : ¬ A b := by rw [← hAe]; exact Nat.not_le.mpr hbl
  obtain ⟨g, hI, hR, tcp, tmo, J1, J2, hU, R_sz, R_wp⟩ := T
  unfold h_J2 at J2
  obtain ⟨lw, rlw, tlw⟩ := hR.at mo 10 tmo (rfl : h_rs 13 10 = some (1310, false)) (by decide)
  have alw : h_ad z mo 10 = lw := h_ad.at rlw
  obtain ⟨tb, rtb, ttb⟩ := hR.at mo 32 tmo (rfl : h_rs 13 32 = some (1332, false)) (by decide)
  have atb : h_ad z mo 32 = tb := h_ad.at rtb
  obtain ⟨bk, rbk, tbk⟩ := hR.at cp 3 tcp (rfl : h_rs 12 3 = some (1, false)) (by decide)
  have abk : h_ad z cp 3 = bk := h_ad.at rbk
  obtain ⟨pl, rpl, tpl⟩ := hR.at bk 1 tbk (rfl : h_rs 1 1 = some (101, false)) (by decide)
  have apl : h_ad z bk 1 = pl := h_ad.at rpl
  obtain ⟨ww, rww, tww⟩ := hR.at mo 38 tmo (rfl : h_rs 13 38 = some (1338, false)) (by decide)
  have aww : h_ad z mo 38 = ww := h_ad.at rww
  rw [alw] at J1
  rw [atb] at J2
  rw [abk] at R_sz
  rw [abk, apl, aww] at R_wp
  refine lv_aload_n hx hb dL_law_1020 rfl (lv_at hl 2 rfl) ?_
  refine lv_aload_n hx hb dL_law_1021 rfl (lv_at hl 3 rfl) ?_
  refine lv_iload_n hx hb dL_law_1022 rfl (lv_at hl 0 rfl) ?_
  refine lv_iconst (v := 1) hx hb dL_law_1023 (by decide) ?_
  refine lv_iadd hx hb dL_law_1024 ?_
  refine lv_topi (fun v1 ev1 => ?_)
  refine va_sld hx hb hSc hbl hbA g.2.1 (h_ix hi0 hi8 hL ev1 (k := 1) (by decide) (by decide) (by decide)) dL_law_1025 ?_
  refine lv_topi (fun v2 ev2 => ?_)
  refine lv_aload_n hx hb dL_law_1026 rfl (lv_at hl 3 rfl) ?_
  refine lv_iload_n hx hb dL_law_1027 rfl (lv_at hl 0 rfl) ?_
  refine lv_iconst (v := 2) hx hb dL_law_1028 (by decide) ?_
  refine lv_iadd hx hb dL_law_1029 ?_
  refine lv_topi (fun v3 ev3 => ?_)
  refine va_sld hx hb hSc hbl hbA g.2.1 (h_ix hi0 hi8 hL ev3 (k := 2) (by decide) (by decide) (by decide)) dL_law_1030 ?_
  refine lv_topi (fun v4 ev4 => ?_)
  refine lv_aload_n hx hb dL_law_1031 rfl (lv_at hl 3 rfl) ?_
  refine lv_iload_n hx hb dL_law_1032 rfl (lv_at hl 0 rfl) ?_
  refine lv_iconst (v := 3) hx hb dL_law_1033 (by decide) ?_
  refine lv_iadd hx hb dL_law_1034 ?_
  refine lv_topi (fun v5 ev5 => ?_)
  refine va_sld hx hb hSc hbl hbA g.2.1 (h_ix hi0 hi8 hL ev5 (k := 3) (by decide) (by decide) (by decide)) dL_law_1035 ?_
  refine lv_topi (fun v6 ev6 => ?_)
  have hIo := hI
  refine va_calll (va_runV (As := [.int v2, .int v4, .int v6]) (rest := []) ⟨hx, hb, hml, hown, hts⟩ (tX11_chance l E X A z I0 L0 cp tcp v2 (v2.toInt) rfl v4 (v4.toInt) rfl v6 (v6.toInt) rfl) (cwV 3 hts gL_law_X11_chance rfl rfl rfl (by decide +kernel) ⟨Nat.le_of_ble_eq_true rfl, Nat.le_of_ble_eq_true rfl⟩) ⟨h_blind _ _ _ _ _ _ _, h_recv g tcp (by decide) so_12 (q := (RX11, TX11, 8)) rfl, h_pre _ hE hk hX hA hI hR g⟩ rfl rfl hl.1 rfl (lv_room (Nat.le_of_ble_eq_true rfl)) dL_law_1036 ⟨show cells + 0 ≤ 600000 by omega, show slots + 0 ≤ 7302250 by omega⟩) g.2.1 (fun q _ h => h) (fun q h => h) (fun rh7 u t H1 locs ht hvm h7 hB hz1 hk1 hS => ?_)
  obtain ⟨I8, L9⟩ := u
  obtain ⟨hI, fh7, h7⟩ := h7
  have hI : h_I z I8 := hI
  have fh7 : h_F [] z I0 I8 := fh7
  have hB : h_B E A z I8 L9 t := hB
  replace J1 : h_J1 (I8 lw) := by rw [show I8 lw = I0 lw from funext (fun k => fh7.at tlw rfl)]; exact J1
  rw [← fh7.at tmo rfl, show I0 tb = I8 tb from funext (fun k => (fh7.at ttb rfl).symm)] at J2
  replace R_sz : I8 bk 2 = I8 mo 13 := by rw [show I8 bk 2 = I0 bk 2 from fh7.at tbk rfl, show I8 mo 13 = I0 mo 13 from fh7.at tmo rfl]; exact R_sz
  replace R_wp : h_wp z I8 pl ww (I8 bk 2).toInt := by rw [show I8 bk 2 = I0 bk 2 from fh7.at tbk rfl]; exact R_wp.F hR tpl fh7 (fun _ => rfl) (fun k _ => fh7.at tww rfl)
  replace g := h_after g hB ht hS
  generalize H1 = H at g
  clear hB hk1 hz1 ht hvm hS
  refine lv_pop2_2 hx hb dL_law_1039 rfl ?_
  refine lv_aload_n hx hb dL_law_1040 rfl (lv_at hl 1 rfl) ?_
  refine lv_aload_n hx hb dL_law_1041 rfl (lv_at hl 3 rfl) ?_
  refine lv_iload_n hx hb dL_law_1042 rfl (lv_at hl 0 rfl) ?_
  refine lv_iconst (v := 1) hx hb dL_law_1043 (by decide) ?_
  refine lv_iadd hx hb dL_law_1044 ?_
  refine lv_topi (fun v10 ev10 => ?_)
  refine va_sld hx hb hSc hbl hbA g.2.1 (h_ix hi0 hi8 hL ev10 (k := 1) (by decide) (by decide) (by decide)) dL_law_1045 ?_
  refine xw_i (v := v2) (by rw [show v10 = v1 from ev10.trans ev1.symm]; exact ev2.symm) ?_
  refine lv_aload_n hx hb dL_law_1046 rfl (lv_at hl 3 rfl) ?_
  refine lv_iload_n hx hb dL_law_1047 rfl (lv_at hl 0 rfl) ?_
  refine lv_iconst (v := 2) hx hb dL_law_1048 (by decide) ?_
  refine lv_iadd hx hb dL_law_1049 ?_
  refine lv_topi (fun v12 ev12 => ?_)
  refine va_sld hx hb hSc hbl hbA g.2.1 (h_ix hi0 hi8 hL ev12 (k := 2) (by decide) (by decide) (by decide)) dL_law_1050 ?_
  refine xw_i (v := v4) (by rw [show v12 = v3 from ev12.trans ev3.symm]; exact ev4.symm) ?_
  refine lv_aload_n hx hb dL_law_1051 rfl (lv_at hl 3 rfl) ?_
  refine lv_iload_n hx hb dL_law_1052 rfl (lv_at hl 0 rfl) ?_
  refine lv_iconst (v := 3) hx hb dL_law_1053 (by decide) ?_
  refine lv_iadd hx hb dL_law_1054 ?_
  refine lv_topi (fun v14 ev14 => ?_)
  refine va_sld hx hb hSc hbl hbA g.2.1 (h_ix hi0 hi8 hL ev14 (k := 3) (by decide) (by decide) (by decide)) dL_law_1055 ?_
  refine xw_i (v := v6) (by rw [show v14 = v5 from ev14.trans ev5.symm]; exact ev6.symm) ?_
  refine vp_callSl (W.runV (As := [.int v2, .int v4, .int v6]) (rest := []) ⟨hx, hb, hml, hown, hts⟩ (tX12_chance l E X A z I8 L9 mo tmo v2 (v2.toInt) rfl v4 (v4.toInt) rfl v6 (v6.toInt) rfl (by rw [alw]; exact J1) (by rw [atb]; exact J2)) (cwV 3 hts gL_law_X12_chance rfl rfl rfl (by decide +kernel) ⟨Nat.le_of_ble_eq_true rfl, Nat.le_of_ble_eq_true rfl⟩) ⟨h_blind _ _ _ _ _ _ _, h_recv g tmo (by decide) so_13 (q := (RX12, TX12, 51)) rfl, h_pre _ hE hk hX hA hI hR g⟩ rfl rfl hl.1 rfl (lv_room (Nat.le_of_ble_eq_true rfl)) dL_law_1056 ⟨show cells + 0 ≤ 600000 by omega, show slots + 0 ≤ 7302250 by omega⟩) (fun rh16 h16 => ?_)
  refine lv_pop2_2 hx hb dL_law_1059 rfl ?_
  refine lv_goto (tgt := 1241) hx hb dL_law_1060 (by decide) ?_
  exact W.widen (by omega) (by omega) (kk z I8 L9 _ _ _ ⟨g, hI, hR, tcp, tmo, by rw [alw]; exact J1, by unfold h_J2; rw [atb]; exact J2, hU, by rw [abk]; exact R_sz, by rw [abk, apl, aww]; exact R_wp⟩ hl)
set_option maxHeartbeats 8000000 in
set_option maxRecDepth 100000 in
theorem law_25 {p : Program} {l : Launch} {e : Env} {s : State} {m : MethodId} {below : List Frame} {meth : Method} {c : Code} {b L : Nat} {xs : Nat → Int32} (C0 : lw_At p s m meth c b L xs) (hL : L ≤ 4096) {A : Nat → Prop} (hAe : (fun q : Nat => s.heap.size ≤ q) = A) {E : tE} {X : tX} (hk : h_Kr X s) (hX : h_S X A s s.heap) {i : Int32} (hi0 : 0 ≤ i.toInt) (hi8 : i.toInt + 8 ≤ L) {cp mo : Nat} {cells slots : Nat} (hcl : cells ≤ 500000) (hsl : slots ≤ 7000000) {z : tZ} {I0 : tI} {L0 : tL} {H : Heap} {locs : List Loc} {ls : Array Slot} (T : h_T E A s z I0 L0 H locs cp mo) (hl : lv_has ls 4 [(3, .int i), (2, .ref mo), (1, .ref cp), (0, .ref b)]) (kk : ∀ (z : tZ) (I0 : tI) (L0 : tL) (H : Heap) (locs : List Loc) (ls : Array Slot), h_T E A s z I0 L0 H locs cp mo → lv_has ls 4 [(3, .int i), (2, .ref mo), (1, .ref cp), (0, .ref b)] → W p l e room_1 s m #[Value.ref b] below meth c H locs (cells + 3) (slots + 17) (lw_Z below #[Value.ref b] s) (F0 m 1241 ls [])) : W p l e room_1 s m #[Value.ref b] below meth c H locs cells slots (lw_Z below #[Value.ref b] s) (F0 m 1063 ls []) := by
  obtain ⟨hx, hb, hr, hml, hown, hts0, hSc, hbl, hlocks, hgv⟩ := id C0
  have hE := xs_E hts0
  have hts : ∀ w ∈ wsL_law, w.before #[Value.ref b] s = true := fun w h => hts0 w (wsL_law_in w h)
  have hA : ∀ q : Nat, s.heap.size ≤ q → A q := fun q h => by rw [← hAe]; exact h
  have hbA : ¬ A b := by rw [← hAe]; exact Nat.not_le.mpr hbl
  obtain ⟨g, hI, hR, tcp, tmo, J1, J2, hU, R_sz, R_wp⟩ := T
  unfold h_J2 at J2
  obtain ⟨lw, rlw, tlw⟩ := hR.at mo 10 tmo (rfl : h_rs 13 10 = some (1310, false)) (by decide)
  have alw : h_ad z mo 10 = lw := h_ad.at rlw
  obtain ⟨tb, rtb, ttb⟩ := hR.at mo 32 tmo (rfl : h_rs 13 32 = some (1332, false)) (by decide)
  have atb : h_ad z mo 32 = tb := h_ad.at rtb
  obtain ⟨bk, rbk, tbk⟩ := hR.at cp 3 tcp (rfl : h_rs 12 3 = some (1, false)) (by decide)
  have abk : h_ad z cp 3 = bk := h_ad.at rbk
  obtain ⟨pl, rpl, tpl⟩ := hR.at bk 1 tbk (rfl : h_rs 1 1 = some (101, false)) (by decide)
  have apl : h_ad z bk 1 = pl := h_ad.at rpl
  obtain ⟨ww, rww, tww⟩ := hR.at mo 38 tmo (rfl : h_rs 13 38 = some (1338, false)) (by decide)
  have aww : h_ad z mo 38 = ww := h_ad.at rww
  rw [alw] at J1
  rw [atb] at J2
  rw [abk] at R_sz
  rw [abk, apl, aww] at R_wp
  refine lv_aload_n hx hb dL_law_1063 rfl (lv_at hl 2 rfl) ?_
  refine lv_aload_n hx hb dL_law_1064 rfl (lv_at hl 3 rfl) ?_
  refine lv_iload_n hx hb dL_law_1065 rfl (lv_at hl 0 rfl) ?_
  refine lv_iconst (v := 1) hx hb dL_law_1066 (by decide) ?_
  refine lv_iadd hx hb dL_law_1067 ?_
  refine lv_topi (fun v1 ev1 => ?_)
  refine va_sld hx hb hSc hbl hbA g.2.1 (h_ix hi0 hi8 hL ev1 (k := 1) (by decide) (by decide) (by decide)) dL_law_1068 ?_
  refine lv_topi (fun v2 ev2 => ?_)
  refine lv_aload_n hx hb dL_law_1069 rfl (lv_at hl 3 rfl) ?_
  refine lv_iload_n hx hb dL_law_1070 rfl (lv_at hl 0 rfl) ?_
  refine lv_iconst (v := 2) hx hb dL_law_1071 (by decide) ?_
  refine lv_iadd hx hb dL_law_1072 ?_
  refine lv_topi (fun v3 ev3 => ?_)
  refine va_sld hx hb hSc hbl hbA g.2.1 (h_ix hi0 hi8 hL ev3 (k := 2) (by decide) (by decide) (by decide)) dL_law_1073 ?_
  refine lv_topi (fun v4 ev4 => ?_)
  have hIo := hI
  refine va_calli (va_runV (As := [.int v2, .int v4]) (rest := []) ⟨hx, hb, hml, hown, hts⟩ (tX11_draw l E X A z I0 L0 cp tcp v2 (v2.toInt) rfl v4 (v4.toInt) rfl) (cwV 2 hts gL_law_X11_draw rfl rfl rfl (by decide +kernel) ⟨Nat.le_of_ble_eq_true rfl, Nat.le_of_ble_eq_true rfl⟩) ⟨h_blind _ _ _ _ _ _ _, h_recv g tcp (by decide) so_12 (q := (RX11, TX11, 8)) rfl, h_pre _ hE hk hX hA hI hR g⟩ rfl rfl hl.1 rfl (lv_room (Nat.le_of_ble_eq_true rfl)) dL_law_1074 ⟨show cells + 0 ≤ 600000 by omega, show slots + 0 ≤ 7302250 by omega⟩) g.2.1 (fun q _ h => h) (fun q h => h) (fun rh5 I6 t H1 locs ht hvm h5 hB hz1 hk1 hS => ?_)
  obtain ⟨hI, fh5, h5⟩ := h5
  replace J1 : h_J1 (I6 lw) := by rw [show I6 lw = I0 lw from funext (fun k => fh5.at tlw rfl)]; exact J1
  rw [← fh5.at tmo rfl, show I0 tb = I6 tb from funext (fun k => (fh5.at ttb rfl).symm)] at J2
  replace R_sz : I6 bk 2 = I6 mo 13 := by rw [show I6 bk 2 = I0 bk 2 from fh5.at tbk rfl, show I6 mo 13 = I0 mo 13 from fh5.at tmo rfl]; exact R_sz
  replace R_wp : h_wp z I6 pl ww (I6 bk 2).toInt := by rw [show I6 bk 2 = I0 bk 2 from fh5.at tbk rfl]; exact R_wp.F hR tpl fh5 (fun _ => rfl) (fun k _ => fh5.at tww rfl)
  replace g := h_after g hB ht hS
  generalize H1 = H at g
  clear hB hk1 hz1 ht hvm hS
  refine lv_pop hx hb dL_law_1077 rfl ?_
  refine lv_aload_n hx hb dL_law_1078 rfl (lv_at hl 1 rfl) ?_
  refine lv_aload_n hx hb dL_law_1079 rfl (lv_at hl 3 rfl) ?_
  refine lv_iload_n hx hb dL_law_1080 rfl (lv_at hl 0 rfl) ?_
  refine lv_iconst (v := 1) hx hb dL_law_1081 (by decide) ?_
  refine lv_iadd hx hb dL_law_1082 ?_
  refine lv_topi (fun v7 ev7 => ?_)
  refine va_sld hx hb hSc hbl hbA g.2.1 (h_ix hi0 hi8 hL ev7 (k := 1) (by decide) (by decide) (by decide)) dL_law_1083 ?_
  refine xw_i (v := v2) (by rw [show v7 = v1 from ev7.trans ev1.symm]; exact ev2.symm) ?_
  refine lv_aload_n hx hb dL_law_1084 rfl (lv_at hl 3 rfl) ?_
  refine lv_iload_n hx hb dL_law_1085 rfl (lv_at hl 0 rfl) ?_
  refine lv_iconst (v := 2) hx hb dL_law_1086 (by decide) ?_
  refine lv_iadd hx hb dL_law_1087 ?_
  refine lv_topi (fun v9 ev9 => ?_)
  refine va_sld hx hb hSc hbl hbA g.2.1 (h_ix hi0 hi8 hL ev9 (k := 2) (by decide) (by decide) (by decide)) dL_law_1088 ?_
  refine xw_i (v := v4) (by rw [show v9 = v3 from ev9.trans ev3.symm]; exact ev4.symm) ?_
  have hIo := hI
  refine va_calli (va_runV (As := [.int v2, .int v4]) (rest := []) ⟨hx, hb, hml, hown, hts⟩ (tX12_draw l E X A z I6 L0 mo tmo v2 (v2.toInt) rfl v4 (v4.toInt) rfl) (cwV 2 hts gL_law_X12_draw rfl rfl rfl (by decide +kernel) ⟨Nat.le_of_ble_eq_true rfl, Nat.le_of_ble_eq_true rfl⟩) ⟨h_blind _ _ _ _ _ _ _, h_recv g tmo (by decide) so_13 (q := (RX12, TX12, 51)) rfl, h_pre _ hE hk hX hA hI hR g⟩ rfl rfl hl.1 rfl (lv_room (Nat.le_of_ble_eq_true rfl)) dL_law_1089 ⟨show cells + 0 ≤ 600000 by omega, show slots + 0 ≤ 7302250 by omega⟩) g.2.1 (fun q _ h => h) (fun q h => h) (fun rh11 I12 t H1 locs ht hvm h11 hB hz1 hk1 hS => ?_)
  obtain ⟨hI, fh11, h11⟩ := h11
  replace J1 : h_J1 (I12 lw) := by rw [show I12 lw = I6 lw from funext (fun k => fh11.at tlw rfl)]; exact J1
  rw [← fh11.at tmo rfl, show I6 tb = I12 tb from funext (fun k => (fh11.at ttb rfl).symm)] at J2
  replace R_sz : I12 bk 2 = I12 mo 13 := by rw [show I12 bk 2 = I6 bk 2 from fh11.at tbk rfl, show I12 mo 13 = I6 mo 13 from fh11.at tmo rfl]; exact R_sz
  replace R_wp : h_wp z I12 pl ww (I12 bk 2).toInt := by rw [show I12 bk 2 = I6 bk 2 from fh11.at tbk rfl]; exact R_wp.F hR tpl fh11 (fun _ => rfl) (fun k _ => fh11.at tww rfl)
  replace g := h_after g hB ht hS
  generalize H1 = H at g
  clear hB hk1 hz1 ht hvm hS
  refine lv_pop hx hb dL_law_1092 rfl ?_
  refine lv_goto (tgt := 1241) hx hb dL_law_1093 (by decide) ?_
  exact W.widen (by omega) (by omega) (kk z I12 L0 _ _ _ ⟨g, hI, hR, tcp, tmo, by rw [alw]; exact J1, by unfold h_J2; rw [atb]; exact J2, hU, by rw [abk]; exact R_sz, by rw [abk, apl, aww]; exact R_wp⟩ hl)
set_option maxHeartbeats 8000000 in
set_option maxRecDepth 100000 in
theorem law_26 {p : Program} {l : Launch} {e : Env} {s : State} {m : MethodId} {below : List Frame} {meth : Method} {c : Code} {b L : Nat} {xs : Nat → Int32} (C0 : lw_At p s m meth c b L xs) (hL : L ≤ 4096) {A : Nat → Prop} (hAe : (fun q : Nat => s.heap.size ≤ q) = A) {E : tE} {X : tX} (hk : h_Kr X s) (hX : h_S X A s s.heap) {i : Int32} (hi0 : 0 ≤ i.toInt) (hi8 : i.toInt + 8 ≤ L) {cp mo : Nat} {cells slots : Nat} (hcl : cells ≤ 500000) (hsl : slots ≤ 7000000) {z : tZ} {I0 : tI} {L0 : tL} {H : Heap} {locs : List Loc} {ls : Array Slot} (T : h_T E A s z I0 L0 H locs cp mo) (hl : lv_has ls 4 [(3, .int i), (2, .ref mo), (1, .ref cp), (0, .ref b)]) (kk : ∀ (z : tZ) (I0 : tI) (L0 : tL) (H : Heap) (locs : List Loc) (ls : Array Slot), h_T E A s z I0 L0 H locs cp mo → lv_has ls 4 [(3, .int i), (2, .ref mo), (1, .ref cp), (0, .ref b)] → W p l e room_1 s m #[Value.ref b] below meth c H locs (cells + 3) (slots + 17) (lw_Z below #[Value.ref b] s) (F0 m 1241 ls [])) : W p l e room_1 s m #[Value.ref b] below meth c H locs cells slots (lw_Z below #[Value.ref b] s) (F0 m 1096 ls []) := by
  obtain ⟨hx, hb, hr, hml, hown, hts0, hSc, hbl, hlocks, hgv⟩ := id C0
  have hE := xs_E hts0
  have hts : ∀ w ∈ wsL_law, w.before #[Value.ref b] s = true := fun w h => hts0 w (wsL_law_in w h)
  have hA : ∀ q : Nat, s.heap.size ≤ q → A q := fun q h => by rw [← hAe]; exact h
  have hbA : ¬ A b := by rw [← hAe]; exact Nat.not_le.mpr hbl
  obtain ⟨g, hI, hR, tcp, tmo, J1, J2, hU, R_sz, R_wp⟩ := T
  unfold h_J2 at J2
  obtain ⟨lw, rlw, tlw⟩ := hR.at mo 10 tmo (rfl : h_rs 13 10 = some (1310, false)) (by decide)
  have alw : h_ad z mo 10 = lw := h_ad.at rlw
  obtain ⟨tb, rtb, ttb⟩ := hR.at mo 32 tmo (rfl : h_rs 13 32 = some (1332, false)) (by decide)
  have atb : h_ad z mo 32 = tb := h_ad.at rtb
  obtain ⟨bk, rbk, tbk⟩ := hR.at cp 3 tcp (rfl : h_rs 12 3 = some (1, false)) (by decide)
  have abk : h_ad z cp 3 = bk := h_ad.at rbk
  obtain ⟨pl, rpl, tpl⟩ := hR.at bk 1 tbk (rfl : h_rs 1 1 = some (101, false)) (by decide)
  have apl : h_ad z bk 1 = pl := h_ad.at rpl
  obtain ⟨ww, rww, tww⟩ := hR.at mo 38 tmo (rfl : h_rs 13 38 = some (1338, false)) (by decide)
  have aww : h_ad z mo 38 = ww := h_ad.at rww
  rw [alw] at J1
  rw [atb] at J2
  rw [abk] at R_sz
  rw [abk, apl, aww] at R_wp
  refine lv_aload_n hx hb dL_law_1096 rfl (lv_at hl 2 rfl) ?_
  refine lv_aload_n hx hb dL_law_1097 rfl (lv_at hl 3 rfl) ?_
  refine lv_iload_n hx hb dL_law_1098 rfl (lv_at hl 0 rfl) ?_
  refine lv_iconst (v := 1) hx hb dL_law_1099 (by decide) ?_
  refine lv_iadd hx hb dL_law_1100 ?_
  refine lv_topi (fun v1 ev1 => ?_)
  refine va_sld hx hb hSc hbl hbA g.2.1 (h_ix hi0 hi8 hL ev1 (k := 1) (by decide) (by decide) (by decide)) dL_law_1101 ?_
  refine lv_topi (fun v2 ev2 => ?_)
  refine lv_aload_n hx hb dL_law_1102 rfl (lv_at hl 3 rfl) ?_
  refine lv_iload_n hx hb dL_law_1103 rfl (lv_at hl 0 rfl) ?_
  refine lv_iconst (v := 2) hx hb dL_law_1104 (by decide) ?_
  refine lv_iadd hx hb dL_law_1105 ?_
  refine lv_topi (fun v3 ev3 => ?_)
  refine va_sld hx hb hSc hbl hbA g.2.1 (h_ix hi0 hi8 hL ev3 (k := 2) (by decide) (by decide) (by decide)) dL_law_1106 ?_
  refine lv_topi (fun v4 ev4 => ?_)
  refine lv_aload_n hx hb dL_law_1107 rfl (lv_at hl 3 rfl) ?_
  refine lv_iload_n hx hb dL_law_1108 rfl (lv_at hl 0 rfl) ?_
  refine lv_iconst (v := 3) hx hb dL_law_1109 (by decide) ?_
  refine lv_iadd hx hb dL_law_1110 ?_
  refine lv_topi (fun v5 ev5 => ?_)
  refine va_sld hx hb hSc hbl hbA g.2.1 (h_ix hi0 hi8 hL ev5 (k := 3) (by decide) (by decide) (by decide)) dL_law_1111 ?_
  refine lv_topi (fun v6 ev6 => ?_)
  refine vp_callSi (W.runV (As := [.int v2, .int v4, .int v6]) (rest := []) ⟨hx, hb, hml, hown, hts⟩ (tX11_turn l E X A z I0 L0 cp tcp v2 (v2.toInt) rfl v4 (v4.toInt) rfl v6 (v6.toInt) rfl) (cwV 3 hts gL_law_X11_turn rfl rfl rfl (by decide +kernel) ⟨Nat.le_of_ble_eq_true rfl, Nat.le_of_ble_eq_true rfl⟩) ⟨h_blind _ _ _ _ _ _ _, h_recv g tcp (by decide) so_12 (q := (RX11, TX11, 8)) rfl, h_pre _ hE hk hX hA hI hR g⟩ rfl rfl hl.1 rfl (lv_room (Nat.le_of_ble_eq_true rfl)) dL_law_1112 ⟨show cells + 0 ≤ 600000 by omega, show slots + 0 ≤ 7302250 by omega⟩) (fun rh7 h7 => ?_)
  refine lv_pop hx hb dL_law_1115 rfl ?_
  refine lv_aload_n hx hb dL_law_1116 rfl (lv_at hl 1 rfl) ?_
  refine lv_aload_n hx hb dL_law_1117 rfl (lv_at hl 3 rfl) ?_
  refine lv_iload_n hx hb dL_law_1118 rfl (lv_at hl 0 rfl) ?_
  refine lv_iconst (v := 1) hx hb dL_law_1119 (by decide) ?_
  refine lv_iadd hx hb dL_law_1120 ?_
  refine lv_topi (fun v8 ev8 => ?_)
  refine va_sld hx hb hSc hbl hbA g.2.1 (h_ix hi0 hi8 hL ev8 (k := 1) (by decide) (by decide) (by decide)) dL_law_1121 ?_
  refine xw_i (v := v2) (by rw [show v8 = v1 from ev8.trans ev1.symm]; exact ev2.symm) ?_
  refine lv_aload_n hx hb dL_law_1122 rfl (lv_at hl 3 rfl) ?_
  refine lv_iload_n hx hb dL_law_1123 rfl (lv_at hl 0 rfl) ?_
  refine lv_iconst (v := 2) hx hb dL_law_1124 (by decide) ?_
  refine lv_iadd hx hb dL_law_1125 ?_
  refine lv_topi (fun v10 ev10 => ?_)
  refine va_sld hx hb hSc hbl hbA g.2.1 (h_ix hi0 hi8 hL ev10 (k := 2) (by decide) (by decide) (by decide)) dL_law_1126 ?_
  refine xw_i (v := v4) (by rw [show v10 = v3 from ev10.trans ev3.symm]; exact ev4.symm) ?_
  refine lv_aload_n hx hb dL_law_1127 rfl (lv_at hl 3 rfl) ?_
  refine lv_iload_n hx hb dL_law_1128 rfl (lv_at hl 0 rfl) ?_
  refine lv_iconst (v := 3) hx hb dL_law_1129 (by decide) ?_
  refine lv_iadd hx hb dL_law_1130 ?_
  refine lv_topi (fun v12 ev12 => ?_)
  refine va_sld hx hb hSc hbl hbA g.2.1 (h_ix hi0 hi8 hL ev12 (k := 3) (by decide) (by decide) (by decide)) dL_law_1131 ?_
  refine xw_i (v := v6) (by rw [show v12 = v5 from ev12.trans ev5.symm]; exact ev6.symm) ?_
  refine vp_callSi (W.runV (As := [.int v2, .int v4, .int v6]) (rest := []) ⟨hx, hb, hml, hown, hts⟩ (tX12_turn l E X A z I0 L0 mo tmo v2 (v2.toInt) rfl v4 (v4.toInt) rfl v6 (v6.toInt) rfl) (cwV 3 hts gL_law_X12_turn rfl rfl rfl (by decide +kernel) ⟨Nat.le_of_ble_eq_true rfl, Nat.le_of_ble_eq_true rfl⟩) ⟨h_blind _ _ _ _ _ _ _, h_recv g tmo (by decide) so_13 (q := (RX12, TX12, 51)) rfl, h_pre _ hE hk hX hA hI hR g⟩ rfl rfl hl.1 rfl (lv_room (Nat.le_of_ble_eq_true rfl)) dL_law_1132 ⟨show cells + 0 ≤ 600000 by omega, show slots + 0 ≤ 7302250 by omega⟩) (fun rh14 h14 => ?_)
  refine lv_pop hx hb dL_law_1135 rfl ?_
  refine lv_goto (tgt := 1241) hx hb dL_law_1136 (by decide) ?_
  exact W.widen (by omega) (by omega) (kk z I0 L0 _ _ _ ⟨g, hI, hR, tcp, tmo, by rw [alw]; exact J1, by unfold h_J2; rw [atb]; exact J2, hU, by rw [abk]; exact R_sz, by rw [abk, apl, aww]; exact R_wp⟩ hl)
set_option maxHeartbeats 8000000 in
set_option maxRecDepth 100000 in
theorem law_27 {p : Program} {l : Launch} {e : Env} {s : State} {m : MethodId} {below : List Frame} {meth : Method} {c : Code} {b L : Nat} {xs : Nat → Int32} (C0 : lw_At p s m meth c b L xs) (hL : L ≤ 4096) {A : Nat → Prop} (hAe : (fun q : Nat => s.heap.size ≤ q) = A) {E : tE} {X : tX} (hk : h_Kr X s) (hX : h_S X A s s.heap) {i : Int32} (hi0 : 0 ≤ i.toInt) (hi8 : i.toInt + 8 ≤ L) {cp mo : Nat} {cells slots : Nat} (hcl : cells ≤ 500000) (hsl : slots ≤ 7000000) {z : tZ} {I0 : tI} {L0 : tL} {H : Heap} {locs : List Loc} {ls : Array Slot} (T : h_T E A s z I0 L0 H locs cp mo) (hl : lv_has ls 4 [(3, .int i), (2, .ref mo), (1, .ref cp), (0, .ref b)]) (kk : ∀ (z : tZ) (I0 : tI) (L0 : tL) (H : Heap) (locs : List Loc) (ls : Array Slot), h_T E A s z I0 L0 H locs cp mo → lv_has ls 4 [(3, .int i), (2, .ref mo), (1, .ref cp), (0, .ref b)] → W p l e room_1 s m #[Value.ref b] below meth c H locs (cells + 3) (slots + 17) (lw_Z below #[Value.ref b] s) (F0 m 1241 ls [])) : W p l e room_1 s m #[Value.ref b] below meth c H locs cells slots (lw_Z below #[Value.ref b] s) (F0 m 1139 ls []) := by
  obtain ⟨hx, hb, hr, hml, hown, hts0, hSc, hbl, hlocks, hgv⟩ := id C0
  have hE := xs_E hts0
  have hts : ∀ w ∈ wsL_law, w.before #[Value.ref b] s = true := fun w h => hts0 w (wsL_law_in w h)
  have hA : ∀ q : Nat, s.heap.size ≤ q → A q := fun q h => by rw [← hAe]; exact h
  have hbA : ¬ A b := by rw [← hAe]; exact Nat.not_le.mpr hbl
  obtain ⟨g, hI, hR, tcp, tmo, J1, J2, hU, R_sz, R_wp⟩ := T
  unfold h_J2 at J2
  obtain ⟨lw, rlw, tlw⟩ := hR.at mo 10 tmo (rfl : h_rs 13 10 = some (1310, false)) (by decide)
  have alw : h_ad z mo 10 = lw := h_ad.at rlw
  obtain ⟨tb, rtb, ttb⟩ := hR.at mo 32 tmo (rfl : h_rs 13 32 = some (1332, false)) (by decide)
  have atb : h_ad z mo 32 = tb := h_ad.at rtb
  obtain ⟨bk, rbk, tbk⟩ := hR.at cp 3 tcp (rfl : h_rs 12 3 = some (1, false)) (by decide)
  have abk : h_ad z cp 3 = bk := h_ad.at rbk
  obtain ⟨pl, rpl, tpl⟩ := hR.at bk 1 tbk (rfl : h_rs 1 1 = some (101, false)) (by decide)
  have apl : h_ad z bk 1 = pl := h_ad.at rpl
  obtain ⟨ww, rww, tww⟩ := hR.at mo 38 tmo (rfl : h_rs 13 38 = some (1338, false)) (by decide)
  have aww : h_ad z mo 38 = ww := h_ad.at rww
  rw [alw] at J1
  rw [atb] at J2
  rw [abk] at R_sz
  rw [abk, apl, aww] at R_wp
  refine lv_aload_n hx hb dL_law_1139 rfl (lv_at hl 2 rfl) ?_
  refine lv_aload_n hx hb dL_law_1140 rfl (lv_at hl 3 rfl) ?_
  refine lv_iload_n hx hb dL_law_1141 rfl (lv_at hl 0 rfl) ?_
  refine lv_iconst (v := 1) hx hb dL_law_1142 (by decide) ?_
  refine lv_iadd hx hb dL_law_1143 ?_
  refine lv_topi (fun v1 ev1 => ?_)
  refine va_sld hx hb hSc hbl hbA g.2.1 (h_ix hi0 hi8 hL ev1 (k := 1) (by decide) (by decide) (by decide)) dL_law_1144 ?_
  refine lv_topi (fun v2 ev2 => ?_)
  refine lv_aload_n hx hb dL_law_1145 rfl (lv_at hl 3 rfl) ?_
  refine lv_iload_n hx hb dL_law_1146 rfl (lv_at hl 0 rfl) ?_
  refine lv_iconst (v := 2) hx hb dL_law_1147 (by decide) ?_
  refine lv_iadd hx hb dL_law_1148 ?_
  refine lv_topi (fun v3 ev3 => ?_)
  refine va_sld hx hb hSc hbl hbA g.2.1 (h_ix hi0 hi8 hL ev3 (k := 2) (by decide) (by decide) (by decide)) dL_law_1149 ?_
  refine lv_topi (fun v4 ev4 => ?_)
  refine lv_aload_n hx hb dL_law_1150 rfl (lv_at hl 3 rfl) ?_
  refine lv_iload_n hx hb dL_law_1151 rfl (lv_at hl 0 rfl) ?_
  refine lv_iconst (v := 3) hx hb dL_law_1152 (by decide) ?_
  refine lv_iadd hx hb dL_law_1153 ?_
  refine lv_topi (fun v5 ev5 => ?_)
  refine va_sld hx hb hSc hbl hbA g.2.1 (h_ix hi0 hi8 hL ev5 (k := 3) (by decide) (by decide) (by decide)) dL_law_1154 ?_
  refine lv_topi (fun v6 ev6 => ?_)
  refine vp_callSi (W.runV (As := [.int v2, .int v4, .int v6]) (rest := []) ⟨hx, hb, hml, hown, hts⟩ (tX11_owner l E X A z I0 L0 cp tcp v2 (v2.toInt) rfl v4 (v4.toInt) rfl v6 (v6.toInt) rfl) (cwV 3 hts gL_law_X11_owner rfl rfl rfl (by decide +kernel) ⟨Nat.le_of_ble_eq_true rfl, Nat.le_of_ble_eq_true rfl⟩) ⟨h_blind _ _ _ _ _ _ _, h_recv g tcp (by decide) so_12 (q := (RX11, TX11, 8)) rfl, h_pre _ hE hk hX hA hI hR g⟩ rfl rfl hl.1 rfl (lv_room (Nat.le_of_ble_eq_true rfl)) dL_law_1155 ⟨show cells + 0 ≤ 600000 by omega, show slots + 0 ≤ 7302250 by omega⟩) (fun rh7 h7 => ?_)
  refine lv_pop hx hb dL_law_1158 rfl ?_
  refine lv_aload_n hx hb dL_law_1159 rfl (lv_at hl 1 rfl) ?_
  refine lv_aload_n hx hb dL_law_1160 rfl (lv_at hl 3 rfl) ?_
  refine lv_iload_n hx hb dL_law_1161 rfl (lv_at hl 0 rfl) ?_
  refine lv_iconst (v := 1) hx hb dL_law_1162 (by decide) ?_
  refine lv_iadd hx hb dL_law_1163 ?_
  refine lv_topi (fun v8 ev8 => ?_)
  refine va_sld hx hb hSc hbl hbA g.2.1 (h_ix hi0 hi8 hL ev8 (k := 1) (by decide) (by decide) (by decide)) dL_law_1164 ?_
  refine xw_i (v := v2) (by rw [show v8 = v1 from ev8.trans ev1.symm]; exact ev2.symm) ?_
  refine lv_aload_n hx hb dL_law_1165 rfl (lv_at hl 3 rfl) ?_
  refine lv_iload_n hx hb dL_law_1166 rfl (lv_at hl 0 rfl) ?_
  refine lv_iconst (v := 2) hx hb dL_law_1167 (by decide) ?_
  refine lv_iadd hx hb dL_law_1168 ?_
  refine lv_topi (fun v10 ev10 => ?_)
  refine va_sld hx hb hSc hbl hbA g.2.1 (h_ix hi0 hi8 hL ev10 (k := 2) (by decide) (by decide) (by decide)) dL_law_1169 ?_
  refine xw_i (v := v4) (by rw [show v10 = v3 from ev10.trans ev3.symm]; exact ev4.symm) ?_
  refine lv_aload_n hx hb dL_law_1170 rfl (lv_at hl 3 rfl) ?_
  refine lv_iload_n hx hb dL_law_1171 rfl (lv_at hl 0 rfl) ?_
  refine lv_iconst (v := 3) hx hb dL_law_1172 (by decide) ?_
  refine lv_iadd hx hb dL_law_1173 ?_
  refine lv_topi (fun v12 ev12 => ?_)
  refine va_sld hx hb hSc hbl hbA g.2.1 (h_ix hi0 hi8 hL ev12 (k := 3) (by decide) (by decide) (by decide)) dL_law_1174 ?_
  refine xw_i (v := v6) (by rw [show v12 = v5 from ev12.trans ev5.symm]; exact ev6.symm) ?_
  refine vp_callSi (W.runV (As := [.int v2, .int v4, .int v6]) (rest := []) ⟨hx, hb, hml, hown, hts⟩ (tX12_owner l E X A z I0 L0 mo tmo v2 (v2.toInt) rfl v4 (v4.toInt) rfl v6 (v6.toInt) rfl) (cwV 3 hts gL_law_X12_owner rfl rfl rfl (by decide +kernel) ⟨Nat.le_of_ble_eq_true rfl, Nat.le_of_ble_eq_true rfl⟩) ⟨h_blind _ _ _ _ _ _ _, h_recv g tmo (by decide) so_13 (q := (RX12, TX12, 51)) rfl, h_pre _ hE hk hX hA hI hR g⟩ rfl rfl hl.1 rfl (lv_room (Nat.le_of_ble_eq_true rfl)) dL_law_1175 ⟨show cells + 0 ≤ 600000 by omega, show slots + 0 ≤ 7302250 by omega⟩) (fun rh14 h14 => ?_)
  refine lv_pop hx hb dL_law_1178 rfl ?_
  refine lv_goto (tgt := 1241) hx hb dL_law_1179 (by decide) ?_
  exact W.widen (by omega) (by omega) (kk z I0 L0 _ _ _ ⟨g, hI, hR, tcp, tmo, by rw [alw]; exact J1, by unfold h_J2; rw [atb]; exact J2, hU, by rw [abk]; exact R_sz, by rw [abk, apl, aww]; exact R_wp⟩ hl)
set_option maxHeartbeats 8000000 in
set_option maxRecDepth 100000 in
theorem law_28 {p : Program} {l : Launch} {e : Env} {s : State} {m : MethodId} {below : List Frame} {meth : Method} {c : Code} {b L : Nat} {xs : Nat → Int32} (C0 : lw_At p s m meth c b L xs) (hL : L ≤ 4096) {A : Nat → Prop} (hAe : (fun q : Nat => s.heap.size ≤ q) = A) {E : tE} {X : tX} (hk : h_Kr X s) (hX : h_S X A s s.heap) {i : Int32} (hi0 : 0 ≤ i.toInt) (hi8 : i.toInt + 8 ≤ L) {cp mo : Nat} {cells slots : Nat} (hcl : cells ≤ 500000) (hsl : slots ≤ 7000000) {z : tZ} {I0 : tI} {L0 : tL} {H : Heap} {locs : List Loc} {ls : Array Slot} (T : h_T E A s z I0 L0 H locs cp mo) (hl : lv_has ls 4 [(3, .int i), (2, .ref mo), (1, .ref cp), (0, .ref b)]) (kk : ∀ (z : tZ) (I0 : tI) (L0 : tL) (H : Heap) (locs : List Loc) (ls : Array Slot), h_T E A s z I0 L0 H locs cp mo → lv_has ls 4 [(3, .int i), (2, .ref mo), (1, .ref cp), (0, .ref b)] → W p l e room_1 s m #[Value.ref b] below meth c H locs (cells + 3) (slots + 17) (lw_Z below #[Value.ref b] s) (F0 m 1241 ls [])) : W p l e room_1 s m #[Value.ref b] below meth c H locs cells slots (lw_Z below #[Value.ref b] s) (F0 m 1182 ls []) := by
  obtain ⟨hx, hb, hr, hml, hown, hts0, hSc, hbl, hlocks, hgv⟩ := id C0
  have hE := xs_E hts0
  have hts : ∀ w ∈ wsL_law, w.before #[Value.ref b] s = true := fun w h => hts0 w (wsL_law_in w h)
  have hA : ∀ q : Nat, s.heap.size ≤ q → A q := fun q h => by rw [← hAe]; exact h
  have hbA : ¬ A b := by rw [← hAe]; exact Nat.not_le.mpr hbl
  obtain ⟨g, hI, hR, tcp, tmo, J1, J2, hU, R_sz, R_wp⟩ := T
  unfold h_J2 at J2
  obtain ⟨lw, rlw, tlw⟩ := hR.at mo 10 tmo (rfl : h_rs 13 10 = some (1310, false)) (by decide)
  have alw : h_ad z mo 10 = lw := h_ad.at rlw
  obtain ⟨tb, rtb, ttb⟩ := hR.at mo 32 tmo (rfl : h_rs 13 32 = some (1332, false)) (by decide)
  have atb : h_ad z mo 32 = tb := h_ad.at rtb
  obtain ⟨bk, rbk, tbk⟩ := hR.at cp 3 tcp (rfl : h_rs 12 3 = some (1, false)) (by decide)
  have abk : h_ad z cp 3 = bk := h_ad.at rbk
  obtain ⟨pl, rpl, tpl⟩ := hR.at bk 1 tbk (rfl : h_rs 1 1 = some (101, false)) (by decide)
  have apl : h_ad z bk 1 = pl := h_ad.at rpl
  obtain ⟨ww, rww, tww⟩ := hR.at mo 38 tmo (rfl : h_rs 13 38 = some (1338, false)) (by decide)
  have aww : h_ad z mo 38 = ww := h_ad.at rww
  rw [alw] at J1
  rw [atb] at J2
  rw [abk] at R_sz
  rw [abk, apl, aww] at R_wp
  refine lv_aload_n hx hb dL_law_1182 rfl (lv_at hl 2 rfl) ?_
  have hIo := hI
  refine va_calli (va_runV (As := []) (rest := []) ⟨hx, hb, hml, hown, hts⟩ (tX11_next l E X A z I0 L0 cp tcp) (cwV 0 hts gL_law_X11_next rfl rfl rfl (by decide +kernel) ⟨Nat.le_of_ble_eq_true rfl, Nat.le_of_ble_eq_true rfl⟩) ⟨h_blind _ _ _ _ _ _ _, h_recv g tcp (by decide) so_12 (q := (RX11, TX11, 8)) rfl, h_pre _ hE hk hX hA hI hR g⟩ rfl rfl hl.1 rfl (lv_room (Nat.le_of_ble_eq_true rfl)) dL_law_1183 ⟨show cells + 0 ≤ 600000 by omega, show slots + 0 ≤ 7302250 by omega⟩) g.2.1 (fun q _ h => h) (fun q h => h) (fun rh1 I2 t H1 locs ht hvm h1 hB hz1 hk1 hS => ?_)
  obtain ⟨hI, fh1, h1⟩ := h1
  replace J1 : h_J1 (I2 lw) := by rw [show I2 lw = I0 lw from funext (fun k => fh1.at tlw rfl)]; exact J1
  rw [← fh1.at tmo rfl, show I0 tb = I2 tb from funext (fun k => (fh1.at ttb rfl).symm)] at J2
  replace R_sz : I2 bk 2 = I2 mo 13 := by rw [show I2 bk 2 = I0 bk 2 from fh1.at tbk rfl, show I2 mo 13 = I0 mo 13 from fh1.at tmo rfl]; exact R_sz
  replace R_wp : h_wp z I2 pl ww (I2 bk 2).toInt := by rw [show I2 bk 2 = I0 bk 2 from fh1.at tbk rfl]; exact R_wp.F hR tpl fh1 (fun _ => rfl) (fun k _ => fh1.at tww rfl)
  replace g := h_after g hB ht hS
  generalize H1 = H at g
  clear hB hk1 hz1 ht hvm hS
  refine lv_pop hx hb dL_law_1186 rfl ?_
  refine lv_aload_n hx hb dL_law_1187 rfl (lv_at hl 1 rfl) ?_
  have hIo := hI
  refine va_calli (va_runV (As := []) (rest := []) ⟨hx, hb, hml, hown, hts⟩ (tX12_nextJ l E X A z I2 L0 mo tmo) (cwV 0 hts gL_law_X12_next rfl rfl rfl (by decide +kernel) ⟨Nat.le_of_ble_eq_true rfl, Nat.le_of_ble_eq_true rfl⟩) ⟨h_blind _ _ _ _ _ _ _, h_recv g tmo (by decide) so_13 (q := (RX12, TX12, 51)) rfl, h_pre _ hE hk hX hA hI hR g⟩ rfl rfl hl.1 rfl (lv_room (Nat.le_of_ble_eq_true rfl)) dL_law_1188 ⟨show cells + 0 ≤ 600000 by omega, show slots + 0 ≤ 7302250 by omega⟩) g.2.1 (fun q _ h => h) (fun q h => h) (fun rh3 I4 t H1 locs ht hvm h3 hB hz1 hk1 hS => ?_)
  obtain ⟨hI, fh3, h3⟩ := h3
  replace J1 : h_J1 (I4 lw) := by rw [show I4 lw = I2 lw from funext (fun k => fh3.at tlw rfl)]; exact J1
  rw [show I2 tb = I4 tb from funext (fun k => (fh3.at ttb rfl).symm)] at J2
  replace J2 := fun q => J2 (h3 q)
  replace R_sz : I4 bk 2 = I4 mo 13 := by rw [show I4 bk 2 = I2 bk 2 from fh3.at tbk rfl, show I4 mo 13 = I2 mo 13 from fh3.at tmo rfl]; exact R_sz
  replace R_wp : h_wp z I4 pl ww (I4 bk 2).toInt := by rw [show I4 bk 2 = I2 bk 2 from fh3.at tbk rfl]; exact R_wp.F hR tpl fh3 (fun _ => rfl) (fun k _ => fh3.at tww rfl)
  replace g := h_after g hB ht hS
  generalize H1 = H at g
  clear hB hk1 hz1 ht hvm hS
  refine lv_pop hx hb dL_law_1191 rfl ?_
  refine lv_goto (tgt := 1241) hx hb dL_law_1192 (by decide) ?_
  exact W.widen (by omega) (by omega) (kk z I4 L0 _ _ _ ⟨g, hI, hR, tcp, tmo, by rw [alw]; exact J1, by unfold h_J2; rw [atb]; exact J2, hU, by rw [abk]; exact R_sz, by rw [abk, apl, aww]; exact R_wp⟩ hl)
set_option maxHeartbeats 8000000 in
set_option maxRecDepth 100000 in
theorem law_29 {p : Program} {l : Launch} {e : Env} {s : State} {m : MethodId} {below : List Frame} {meth : Method} {c : Code} {b L : Nat} {xs : Nat → Int32} (C0 : lw_At p s m meth c b L xs) (hL : L ≤ 4096) {A : Nat → Prop} (hAe : (fun q : Nat => s.heap.size ≤ q) = A) {E : tE} {X : tX} (hk : h_Kr X s) (hX : h_S X A s s.heap) {i : Int32} (hi0 : 0 ≤ i.toInt) (hi8 : i.toInt + 8 ≤ L) {cp mo : Nat} {cells slots : Nat} (hcl : cells ≤ 500000) (hsl : slots ≤ 7000000) {z : tZ} {I0 : tI} {L0 : tL} {H : Heap} {locs : List Loc} {ls : Array Slot} (T : h_T E A s z I0 L0 H locs cp mo) (hl : lv_has ls 4 [(3, .int i), (2, .ref mo), (1, .ref cp), (0, .ref b)]) (kk : ∀ (z : tZ) (I0 : tI) (L0 : tL) (H : Heap) (locs : List Loc) (ls : Array Slot), h_T E A s z I0 L0 H locs cp mo → lv_has ls 4 [(3, .int i), (2, .ref mo), (1, .ref cp), (0, .ref b)] → W p l e room_1 s m #[Value.ref b] below meth c H locs (cells + 3) (slots + 17) (lw_Z below #[Value.ref b] s) (F0 m 1241 ls [])) : W p l e room_1 s m #[Value.ref b] below meth c H locs cells slots (lw_Z below #[Value.ref b] s) (F0 m 1195 ls []) := by
  obtain ⟨hx, hb, hr, hml, hown, hts0, hSc, hbl, hlocks, hgv⟩ := id C0
  have hE := xs_E hts0
  have hts : ∀ w ∈ wsL_law, w.before #[Value.ref b] s = true := fun w h => hts0 w (wsL_law_in w h)
  have hA : ∀ q : Nat, s.heap.size ≤ q → A q := fun q h => by rw [← hAe]; exact h
  have hbA : ¬ A b := by rw [← hAe]; exact Nat.not_le.mpr hbl
  obtain ⟨g, hI, hR, tcp, tmo, J1, J2, hU, R_sz, R_wp⟩ := T
  unfold h_J2 at J2
  obtain ⟨lw, rlw, tlw⟩ := hR.at mo 10 tmo (rfl : h_rs 13 10 = some (1310, false)) (by decide)
  have alw : h_ad z mo 10 = lw := h_ad.at rlw
  obtain ⟨tb, rtb, ttb⟩ := hR.at mo 32 tmo (rfl : h_rs 13 32 = some (1332, false)) (by decide)
  have atb : h_ad z mo 32 = tb := h_ad.at rtb
  obtain ⟨bk, rbk, tbk⟩ := hR.at cp 3 tcp (rfl : h_rs 12 3 = some (1, false)) (by decide)
  have abk : h_ad z cp 3 = bk := h_ad.at rbk
  obtain ⟨pl, rpl, tpl⟩ := hR.at bk 1 tbk (rfl : h_rs 1 1 = some (101, false)) (by decide)
  have apl : h_ad z bk 1 = pl := h_ad.at rpl
  obtain ⟨ww, rww, tww⟩ := hR.at mo 38 tmo (rfl : h_rs 13 38 = some (1338, false)) (by decide)
  have aww : h_ad z mo 38 = ww := h_ad.at rww
  rw [alw] at J1
  rw [atb] at J2
  rw [abk] at R_sz
  rw [abk, apl, aww] at R_wp
  refine lv_aload_n hx hb dL_law_1195 rfl (lv_at hl 2 rfl) ?_
  refine lv_aload_n hx hb dL_law_1196 rfl (lv_at hl 3 rfl) ?_
  refine lv_iload_n hx hb dL_law_1197 rfl (lv_at hl 0 rfl) ?_
  refine lv_iconst (v := 1) hx hb dL_law_1198 (by decide) ?_
  refine lv_iadd hx hb dL_law_1199 ?_
  refine lv_topi (fun v1 ev1 => ?_)
  refine va_sld hx hb hSc hbl hbA g.2.1 (h_ix hi0 hi8 hL ev1 (k := 1) (by decide) (by decide) (by decide)) dL_law_1200 ?_
  refine lv_topi (fun v2 ev2 => ?_)
  refine vp_callSi (W.runV (As := [.int v2]) (rest := []) ⟨hx, hb, hml, hown, hts⟩ (tX11_purse l E X A z I0 L0 cp tcp v2 (v2.toInt) rfl) (cwV 1 hts gL_law_X11_purse rfl rfl rfl (by decide +kernel) ⟨Nat.le_of_ble_eq_true rfl, Nat.le_of_ble_eq_true rfl⟩) ⟨h_blind _ _ _ _ _ _ _, h_recv g tcp (by decide) so_12 (q := (RX11, TX11, 8)) rfl, h_pre _ hE hk hX hA hI hR g⟩ rfl rfl hl.1 rfl (lv_room (Nat.le_of_ble_eq_true rfl)) dL_law_1201 ⟨show cells + 0 ≤ 600000 by omega, show slots + 0 ≤ 7302250 by omega⟩) (fun rh3 h3 => ?_)
  refine lv_pop hx hb dL_law_1204 rfl ?_
  refine lv_aload_n hx hb dL_law_1205 rfl (lv_at hl 1 rfl) ?_
  refine lv_aload_n hx hb dL_law_1206 rfl (lv_at hl 3 rfl) ?_
  refine lv_iload_n hx hb dL_law_1207 rfl (lv_at hl 0 rfl) ?_
  refine lv_iconst (v := 1) hx hb dL_law_1208 (by decide) ?_
  refine lv_iadd hx hb dL_law_1209 ?_
  refine lv_topi (fun v4 ev4 => ?_)
  refine va_sld hx hb hSc hbl hbA g.2.1 (h_ix hi0 hi8 hL ev4 (k := 1) (by decide) (by decide) (by decide)) dL_law_1210 ?_
  refine xw_i (v := v2) (by rw [show v4 = v1 from ev4.trans ev1.symm]; exact ev2.symm) ?_
  refine vp_callSi (W.runV (As := [.int v2]) (rest := []) ⟨hx, hb, hml, hown, hts⟩ (tX12_purse l E X A z I0 L0 mo tmo v2 (v2.toInt) rfl) (cwV 1 hts gL_law_X12_purse rfl rfl rfl (by decide +kernel) ⟨Nat.le_of_ble_eq_true rfl, Nat.le_of_ble_eq_true rfl⟩) ⟨h_blind _ _ _ _ _ _ _, h_recv g tmo (by decide) so_13 (q := (RX12, TX12, 51)) rfl, h_pre _ hE hk hX hA hI hR g⟩ rfl rfl hl.1 rfl (lv_room (Nat.le_of_ble_eq_true rfl)) dL_law_1211 ⟨show cells + 0 ≤ 600000 by omega, show slots + 0 ≤ 7302250 by omega⟩) (fun rh6 h6 => ?_)
  refine lv_pop hx hb dL_law_1214 rfl ?_
  refine lv_goto (tgt := 1241) hx hb dL_law_1215 (by decide) ?_
  exact W.widen (by omega) (by omega) (kk z I0 L0 _ _ _ ⟨g, hI, hR, tcp, tmo, by rw [alw]; exact J1, by unfold h_J2; rw [atb]; exact J2, hU, by rw [abk]; exact R_sz, by rw [abk, apl, aww]; exact R_wp⟩ hl)
set_option maxHeartbeats 8000000 in
set_option maxRecDepth 100000 in
theorem law_30 {p : Program} {l : Launch} {e : Env} {s : State} {m : MethodId} {below : List Frame} {meth : Method} {c : Code} {b L : Nat} {xs : Nat → Int32} (C0 : lw_At p s m meth c b L xs) (hL : L ≤ 4096) {A : Nat → Prop} (hAe : (fun q : Nat => s.heap.size ≤ q) = A) {E : tE} {X : tX} (hk : h_Kr X s) (hX : h_S X A s s.heap) {i : Int32} (hi0 : 0 ≤ i.toInt) (hi8 : i.toInt + 8 ≤ L) {cp mo : Nat} {cells slots : Nat} (hcl : cells ≤ 500000) (hsl : slots ≤ 7000000) {z : tZ} {I0 : tI} {L0 : tL} {H : Heap} {locs : List Loc} {ls : Array Slot} (T : h_T E A s z I0 L0 H locs cp mo) (hl : lv_has ls 4 [(3, .int i), (2, .ref mo), (1, .ref cp), (0, .ref b)]) (kk : ∀ (z : tZ) (I0 : tI) (L0 : tL) (H : Heap) (locs : List Loc) (ls : Array Slot), h_T E A s z I0 L0 H locs cp mo → lv_has ls 4 [(3, .int i), (2, .ref mo), (1, .ref cp), (0, .ref b)] → W p l e room_1 s m #[Value.ref b] below meth c H locs (cells + 3) (slots + 17) (lw_Z below #[Value.ref b] s) (F0 m 1241 ls [])) : W p l e room_1 s m #[Value.ref b] below meth c H locs cells slots (lw_Z below #[Value.ref b] s) (F0 m 1218 ls []) := by
  obtain ⟨hx, hb, hr, hml, hown, hts0, hSc, hbl, hlocks, hgv⟩ := id C0
  have hE := xs_E hts0
  have hts : ∀ w ∈ wsL_law, w.before #[Value.ref b] s = true := fun w h => hts0 w (wsL_law_in w h)
  have hA : ∀ q : Nat, s.heap.size ≤ q → A q := fun q h => by rw [← hAe]; exact h
  have hbA : ¬ A b := by rw [← hAe]; exact Nat.not_le.mpr hbl
  obtain ⟨g, hI, hR, tcp, tmo, J1, J2, hU, R_sz, R_wp⟩ := T
  unfold h_J2 at J2
  obtain ⟨lw, rlw, tlw⟩ := hR.at mo 10 tmo (rfl : h_rs 13 10 = some (1310, false)) (by decide)
  have alw : h_ad z mo 10 = lw := h_ad.at rlw
  obtain ⟨tb, rtb, ttb⟩ := hR.at mo 32 tmo (rfl : h_rs 13 32 = some (1332, false)) (by decide)
  have atb : h_ad z mo 32 = tb := h_ad.at rtb
  obtain ⟨bk, rbk, tbk⟩ := hR.at cp 3 tcp (rfl : h_rs 12 3 = some (1, false)) (by decide)
  have abk : h_ad z cp 3 = bk := h_ad.at rbk
  obtain ⟨pl, rpl, tpl⟩ := hR.at bk 1 tbk (rfl : h_rs 1 1 = some (101, false)) (by decide)
  have apl : h_ad z bk 1 = pl := h_ad.at rpl
  obtain ⟨ww, rww, tww⟩ := hR.at mo 38 tmo (rfl : h_rs 13 38 = some (1338, false)) (by decide)
  have aww : h_ad z mo 38 = ww := h_ad.at rww
  rw [alw] at J1
  rw [atb] at J2
  rw [abk] at R_sz
  rw [abk, apl, aww] at R_wp
  refine lv_aload_n hx hb dL_law_1218 rfl (lv_at hl 2 rfl) ?_
  refine lv_aload_n hx hb dL_law_1219 rfl (lv_at hl 3 rfl) ?_
  refine lv_iload_n hx hb dL_law_1220 rfl (lv_at hl 0 rfl) ?_
  refine lv_iconst (v := 1) hx hb dL_law_1221 (by decide) ?_
  refine lv_iadd hx hb dL_law_1222 ?_
  refine lv_topi (fun v1 ev1 => ?_)
  refine va_sld hx hb hSc hbl hbA g.2.1 (h_ix hi0 hi8 hL ev1 (k := 1) (by decide) (by decide) (by decide)) dL_law_1223 ?_
  refine lv_topi (fun v2 ev2 => ?_)
  refine vp_callSi (W.runV (As := [.int v2]) (rest := []) ⟨hx, hb, hml, hown, hts⟩ (tX11_count l E X A z I0 L0 cp tcp v2 (v2.toInt) rfl) (cwV 1 hts gL_law_X11_count rfl rfl rfl (by decide +kernel) ⟨Nat.le_of_ble_eq_true rfl, Nat.le_of_ble_eq_true rfl⟩) ⟨h_blind _ _ _ _ _ _ _, h_recv g tcp (by decide) so_12 (q := (RX11, TX11, 8)) rfl, h_pre _ hE hk hX hA hI hR g⟩ rfl rfl hl.1 rfl (lv_room (Nat.le_of_ble_eq_true rfl)) dL_law_1224 ⟨show cells + 0 ≤ 600000 by omega, show slots + 0 ≤ 7302250 by omega⟩) (fun rh3 h3 => ?_)
  refine lv_pop hx hb dL_law_1227 rfl ?_
  refine lv_aload_n hx hb dL_law_1228 rfl (lv_at hl 1 rfl) ?_
  refine lv_aload_n hx hb dL_law_1229 rfl (lv_at hl 3 rfl) ?_
  refine lv_iload_n hx hb dL_law_1230 rfl (lv_at hl 0 rfl) ?_
  refine lv_iconst (v := 1) hx hb dL_law_1231 (by decide) ?_
  refine lv_iadd hx hb dL_law_1232 ?_
  refine lv_topi (fun v4 ev4 => ?_)
  refine va_sld hx hb hSc hbl hbA g.2.1 (h_ix hi0 hi8 hL ev4 (k := 1) (by decide) (by decide) (by decide)) dL_law_1233 ?_
  refine xw_i (v := v2) (by rw [show v4 = v1 from ev4.trans ev1.symm]; exact ev2.symm) ?_
  refine vp_callSi (W.runV (As := [.int v2]) (rest := []) ⟨hx, hb, hml, hown, hts⟩ (tX12_count l E X A z I0 L0 mo tmo v2 (v2.toInt) rfl) (cwV 1 hts gL_law_X12_count rfl rfl rfl (by decide +kernel) ⟨Nat.le_of_ble_eq_true rfl, Nat.le_of_ble_eq_true rfl⟩) ⟨h_blind _ _ _ _ _ _ _, h_recv g tmo (by decide) so_13 (q := (RX12, TX12, 51)) rfl, h_pre _ hE hk hX hA hI hR g⟩ rfl rfl hl.1 rfl (lv_room (Nat.le_of_ble_eq_true rfl)) dL_law_1234 ⟨show cells + 0 ≤ 600000 by omega, show slots + 0 ≤ 7302250 by omega⟩) (fun rh6 h6 => ?_)
  refine lv_pop hx hb dL_law_1237 rfl ?_
  refine lv_goto (tgt := 1241) hx hb dL_law_1238 (by decide) ?_
  exact W.widen (by omega) (by omega) (kk z I0 L0 _ _ _ ⟨g, hI, hR, tcp, tmo, by rw [alw]; exact J1, by unfold h_J2; rw [atb]; exact J2, hU, by rw [abk]; exact R_sz, by rw [abk, apl, aww]; exact R_wp⟩ hl)
