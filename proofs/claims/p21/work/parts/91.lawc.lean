set_option maxHeartbeats 8000000 in
set_option maxRecDepth 100000 in
theorem law_16 {p : Program} {l : Launch} {e : Env} {s : State} {m : MethodId} {below : List Frame} {meth : Method} {c : Code} {b L : Nat} {xs : Nat → Int32} (C0 : lw_At p s m meth c b L xs) (hL : L ≤ 4096) {A : Nat → Prop} (hAe : (fun q : Nat => s.heap.size ≤ q) = A) {E : tE} {X : tX} (hk : h_Kr X s) (hX : h_S X A s s.heap) {i : Int32} (hi0 : 0 ≤ i.toInt) (hi8 : i.toInt + 8 ≤ L) {cp mo : Nat} {cells slots : Nat} (hcl : cells ≤ 500000) (hsl : slots ≤ 7000000) {z : tZ} {I0 : tI} {L0 : tL} {H : Heap} {locs : List Loc} {ls : Array Slot} (T : h_T E A s z I0 L0 H locs cp mo) (hl : lv_has ls 4 [(3, .int i), (2, .ref mo), (1, .ref cp), (0, .ref b)]) (kk : ∀ (z : tZ) (I0 : tI) (L0 : tL) (H : Heap) (locs : List Loc) (ls : Array Slot), h_T E A s z I0 L0 H locs cp mo → lv_has ls 4 [(3, .int i), (2, .ref mo), (1, .ref cp), (0, .ref b)] → W p l e room_1 s m #[Value.ref b] below meth c H locs (cells + 3) (slots + 17) (lw_Z below #[Value.ref b] s) (F0 m 1241 ls [])) : W p l e room_1 s m #[Value.ref b] below meth c H locs cells slots (lw_Z below #[Value.ref b] s) (F0 m 826 ls []) := by
  obtain ⟨hx, hb, hr, hml, hown, hts0, hSc, hbl, hlocks, hgv⟩ := id C0
  have hE := xs_E hts0
  have hts : ∀ w ∈ wsL_law, w.before #[Value.ref b] s = true := fun w h => hts0 w (wsL_law_in w h)
  have hA : ∀ q : Nat, s.heap.size ≤ q → A q := fun q h => by rw [← hAe]; exact h
  have hbA : ¬ A b := by rw [← hAe]; exact Nat.not_le.mpr hbl
  obtain ⟨g, hI, hR, tcp, tmo, J1, J2, hU, R_sz, R_wp⟩ := T
  unfold h_J2 at J2
  obtain ⟨lw, rlw, tlw⟩ := hR.at mo 10 tmo (rfl : h_rs 13 10 = some (1310, false)) (by decide)
  have alw : h_ad z mo 10 = lw := h_ad.at rlw
  obtain ⟨tb, rtb, ttb⟩ := hR.at mo 32 tmo (rfl : h_rs 13 32 = some (1332, false)) (by decide)
  have atb : h_ad z mo 32 = tb := h_ad.at rtb
  obtain ⟨bk, rbk, tbk⟩ := hR.at cp 3 tcp (rfl : h_rs 12 3 = some (1, false)) (by decide)
  have abk : h_ad z cp 3 = bk := h_ad.at rbk
  obtain ⟨pl, rpl, tpl⟩ := hR.at bk 1 tbk (rfl : h_rs 1 1 = some (101, false)) (by decide)
  have apl : h_ad z bk 1 = pl := h_ad.at rpl
  obtain ⟨ww, rww, tww⟩ := hR.at mo 38 tmo (rfl : h_rs 13 38 = some (1338, false)) (by decide)
  have aww : h_ad z mo 38 = ww := h_ad.at rww
  rw [alw] at J1
  rw [atb] at J2
  rw [abk] at R_sz
  rw [abk, apl, aww] at R_wp
  refine lv_aload_n hx hb dL_law_826 rfl (lv_at hl 2 rfl) ?_
  have hIo := hI
  refine va_calli (va_runV (As := []) (rest := []) ⟨hx, hb, hml, hown, hts⟩ (tX11_check l E X A z I0 L0 cp tcp) (cwV 0 hts gL_law_X11_check rfl rfl rfl (by decide +kernel) ⟨Nat.le_of_ble_eq_true rfl, Nat.le_of_ble_eq_true rfl⟩) ⟨h_blind _ _ _ _ _ _ _, h_recv g tcp (by decide) so_12 (q := (RX11, TX11, 8)) rfl, h_pre _ hE hk hX hA hI hR g⟩ rfl rfl hl.1 rfl (lv_room (Nat.le_of_ble_eq_true rfl)) dL_law_827 ⟨show cells + 0 ≤ 600000 by omega, show slots + 0 ≤ 7302250 by omega⟩) g.2.1 (fun q _ h => h) (fun q h => h) (fun rh1 I2 t H1 locs ht hvm h1 hB hz1 hk1 hS => ?_)
  obtain ⟨hI, fh1, h1⟩ := h1
  replace J1 : h_J1 (I2 lw) := by rw [show I2 lw = I0 lw from funext (fun k => fh1.at tlw rfl)]; exact J1
  rw [← fh1.at tmo rfl, show I0 tb = I2 tb from funext (fun k => (fh1.at ttb rfl).symm)] at J2
  replace R_sz : I2 bk 2 = I2 mo 13 := by rw [show I2 bk 2 = I0 bk 2 from fh1.at tbk rfl, show I2 mo 13 = I0 mo 13 from fh1.at tmo rfl]; exact R_sz
  replace R_wp : h_wp z I2 pl ww (I2 bk 2).toInt := by rw [show I2 bk 2 = I0 bk 2 from fh1.at tbk rfl]; exact R_wp.F hR tpl fh1 (fun _ => rfl) (fun k _ => fh1.at tww rfl)
  replace g := h_after g hB ht hS
  generalize H1 = H at g
  clear hB hk1 hz1 ht hvm hS
  refine lv_pop hx hb dL_law_830 rfl ?_
  refine lv_aload_n hx hb dL_law_831 rfl (lv_at hl 1 rfl) ?_
  refine vp_callSi (W.runV (As := []) (rest := []) ⟨hx, hb, hml, hown, hts⟩ (tX12_check l E X A z I2 L0 mo tmo) (cwV 0 hts gL_law_X12_check rfl rfl rfl (by decide +kernel) ⟨Nat.le_of_ble_eq_true rfl, Nat.le_of_ble_eq_true rfl⟩) ⟨h_blind _ _ _ _ _ _ _, h_recv g tmo (by decide) so_13 (q := (RX12, TX12, 51)) rfl, h_pre _ hE hk hX hA hI hR g⟩ rfl rfl hl.1 rfl (lv_room (Nat.le_of_ble_eq_true rfl)) dL_law_832 ⟨show cells + 0 ≤ 600000 by omega, show slots + 0 ≤ 7302250 by omega⟩) (fun rh3 h3 => ?_)
  refine lv_pop hx hb dL_law_835 rfl ?_
  refine lv_goto (tgt := 1241) hx hb dL_law_836 (by decide) ?_
  exact W.widen (by omega) (by omega) (kk z I2 L0 _ _ _ ⟨g, hI, hR, tcp, tmo, by rw [alw]; exact J1, by unfold h_J2; rw [atb]; exact J2, hU, by rw [abk]; exact R_sz, by rw [abk, apl, aww]; exact R_wp⟩ hl)
set_option maxHeartbeats 8000000 in
set_option maxRecDepth 100000 in
theorem law_17 {p : Program} {l : Launch} {e : Env} {s : State} {m : MethodId} {below : List Frame} {meth : Method} {c : Code} {b L : Nat} {xs : Nat → Int32} (C0 : lw_At p s m meth c b L xs) (hL : L ≤ 4096) {A : Nat → Prop} (hAe : (fun q : Nat => s.heap.size ≤ q) = A) {E : tE} {X : tX} (hk : h_Kr X s) (hX : h_S X A s s.heap) {i : Int32} (hi0 : 0 ≤ i.toInt) (hi8 : i.toInt + 8 ≤ L) {cp mo : Nat} {cells slots : Nat} (hcl : cells ≤ 500000) (hsl : slots ≤ 7000000) {z : tZ} {I0 : tI} {L0 : tL} {H : Heap} {locs : List Loc} {ls : Array Slot} (T : h_T E A s z I0 L0 H locs cp mo) (hl : lv_has ls 4 [(3, .int i), (2, .ref mo), (1, .ref cp), (0, .ref b)]) (kk : ∀ (z : tZ) (I0 : tI) (L0 : tL) (H : Heap) (locs : List Loc) (ls : Array Slot), h_T E A s z I0 L0 H locs cp mo → lv_has ls 4 [(3, .int i), (2, .ref mo), (1, .ref cp), (0, .ref b)] → W p l e room_1 s m #[Value.ref b] below meth c H locs (cells + 3) (slots + 17) (lw_Z below #[Value.ref b] s) (F0 m 1241 ls [])) : W p l e room_1 s m #[Value.ref b] below meth c H locs cells slots (lw_Z below #[Value.ref b] s) (F0 m 839 ls []) := by
  obtain ⟨hx, hb, hr, hml, hown, hts0, hSc, hbl, hlocks, hgv⟩ := id C0
  have hE := xs_E hts0
  have hts : ∀ w ∈ wsL_law, w.before #[Value.ref b] s = true := fun w h => hts0 w (wsL_law_in w h)
  have hA : ∀ q : Nat, s.heap.size ≤ q → A q := fun q h => by rw [← hAe]; exact h
  have hbA : ¬ A b := by rw [← hAe]; exact Nat.not_le.mpr hbl
  obtain ⟨g, hI, hR, tcp, tmo, J1, J2, hU, R_sz, R_wp⟩ := T
  unfold h_J2 at J2
  obtain ⟨lw, rlw, tlw⟩ := hR.at mo 10 tmo (rfl : h_rs 13 10 = some (1310, false)) (by decide)
  have alw : h_ad z mo 10 = lw := h_ad.at rlw
  obtain ⟨tb, rtb, ttb⟩ := hR.at mo 32 tmo (rfl : h_rs 13 32 = some (1332, false)) (by decide)
  have atb : h_ad z mo 32 = tb := h_ad.at rtb
  obtain ⟨bk, rbk, tbk⟩ := hR.at cp 3 tcp (rfl : h_rs 12 3 = some (1, false)) (by decide)
  have abk : h_ad z cp 3 = bk := h_ad.at rbk
  obtain ⟨pl, rpl, tpl⟩ := hR.at bk 1 tbk (rfl : h_rs 1 1 = some (101, false)) (by decide)
  have apl : h_ad z bk 1 = pl := h_ad.at rpl
  obtain ⟨ww, rww, tww⟩ := hR.at mo 38 tmo (rfl : h_rs 13 38 = some (1338, false)) (by decide)
  have aww : h_ad z mo 38 = ww := h_ad.at rww
  rw [alw] at J1
  rw [atb] at J2
  rw [abk] at R_sz
  rw [abk, apl, aww] at R_wp
  refine lv_aload_n hx hb dL_law_839 rfl (lv_at hl 2 rfl) ?_
  refine lv_aload_n hx hb dL_law_840 rfl (lv_at hl 3 rfl) ?_
  refine lv_iload_n hx hb dL_law_841 rfl (lv_at hl 0 rfl) ?_
  refine lv_iconst (v := 1) hx hb dL_law_842 (by decide) ?_
  refine lv_iadd hx hb dL_law_843 ?_
  refine lv_topi (fun v1 ev1 => ?_)
  refine va_sld hx hb hSc hbl hbA g.2.1 (h_ix hi0 hi8 hL ev1 (k := 1) (by decide) (by decide) (by decide)) dL_law_844 ?_
  refine lv_topi (fun v2 ev2 => ?_)
  refine vp_callSi (W.runV (As := [.int v2]) (rest := []) ⟨hx, hb, hml, hown, hts⟩ (tX11_gain l E X A z I0 L0 cp tcp v2 (v2.toInt) rfl) (cwV 1 hts gL_law_X11_gain rfl rfl rfl (by decide +kernel) ⟨Nat.le_of_ble_eq_true rfl, Nat.le_of_ble_eq_true rfl⟩) ⟨h_blind _ _ _ _ _ _ _, h_recv g tcp (by decide) so_12 (q := (RX11, TX11, 8)) rfl, h_pre _ hE hk hX hA hI hR g⟩ rfl rfl hl.1 rfl (lv_room (Nat.le_of_ble_eq_true rfl)) dL_law_845 ⟨show cells + 0 ≤ 600000 by omega, show slots + 0 ≤ 7302250 by omega⟩) (fun rh3 h3 => ?_)
  refine lv_pop hx hb dL_law_848 rfl ?_
  refine lv_aload_n hx hb dL_law_849 rfl (lv_at hl 1 rfl) ?_
  refine lv_aload_n hx hb dL_law_850 rfl (lv_at hl 3 rfl) ?_
  refine lv_iload_n hx hb dL_law_851 rfl (lv_at hl 0 rfl) ?_
  refine lv_iconst (v := 1) hx hb dL_law_852 (by decide) ?_
  refine lv_iadd hx hb dL_law_853 ?_
  refine lv_topi (fun v4 ev4 => ?_)
  refine va_sld hx hb hSc hbl hbA g.2.1 (h_ix hi0 hi8 hL ev4 (k := 1) (by decide) (by decide) (by decide)) dL_law_854 ?_
  refine xw_i (v := v2) (by rw [show v4 = v1 from ev4.trans ev1.symm]; exact ev2.symm) ?_
  refine vp_callSi (W.runV (As := [.int v2]) (rest := []) ⟨hx, hb, hml, hown, hts⟩ (tX12_gain l E X A z I0 L0 mo tmo v2 (v2.toInt) rfl) (cwV 1 hts gL_law_X12_gain rfl rfl rfl (by decide +kernel) ⟨Nat.le_of_ble_eq_true rfl, Nat.le_of_ble_eq_true rfl⟩) ⟨h_blind _ _ _ _ _ _ _, h_recv g tmo (by decide) so_13 (q := (RX12, TX12, 51)) rfl, h_pre _ hE hk hX hA hI hR g⟩ rfl rfl hl.1 rfl (lv_room (Nat.le_of_ble_eq_true rfl)) dL_law_855 ⟨show cells + 0 ≤ 600000 by omega, show slots + 0 ≤ 7302250 by omega⟩) (fun rh6 h6 => ?_)
  refine lv_pop hx hb dL_law_858 rfl ?_
  refine lv_goto (tgt := 1241) hx hb dL_law_859 (by decide) ?_
  exact W.widen (by omega) (by omega) (kk z I0 L0 _ _ _ ⟨g, hI, hR, tcp, tmo, by rw [alw]; exact J1, by unfold h_J2; rw [atb]; exact J2, hU, by rw [abk]; exact R_sz, by rw [abk, apl, aww]; exact R_wp⟩ hl)
set_option maxHeartbeats 8000000 in
set_option maxRecDepth 100000 in
theorem law_18 {p : Program} {l : Launch} {e : Env} {s : State} {m : MethodId} {below : List Frame} {meth : Method} {c : Code} {b L : Nat} {xs : Nat → Int32} (C0 : lw_At p s m meth c b L xs) (hL : L ≤ 4096) {A : Nat → Prop} (hAe : (fun q : Nat => s.heap.size ≤ q) = A) {E : tE} {X : tX} (hk : h_Kr X s) (hX : h_S X A s s.heap) {i : Int32} (hi0 : 0 ≤ i.toInt) (hi8 : i.toInt + 8 ≤ L) {cp mo : Nat} {cells slots : Nat} (hcl : cells ≤ 500000) (hsl : slots ≤ 7000000) {z : tZ} {I0 : tI} {L0 : tL} {H : Heap} {locs : List Loc} {ls : Array Slot} (T : h_T E A s z I0 L0 H locs cp mo) (hl : lv_has ls 4 [(3, .int i), (2, .ref mo), (1, .ref cp), (0, .ref b)]) (kk : ∀ (z : tZ) (I0 : tI) (L0 : tL) (H : Heap) (locs : List Loc) (ls : Array Slot), h_T E A s z I0 L0 H locs cp mo → lv_has ls 4 [(3, .int i), (2, .ref mo), (1, .ref cp), (0, .ref b)] → W p l e room_1 s m #[Value.ref b] below meth c H locs (cells + 3) (slots + 17) (lw_Z below #[Value.ref b] s) (F0 m 1241 ls [])) : W p l e room_1 s m #[Value.ref b] below meth c H locs cells slots (lw_Z below #[Value.ref b] s) (F0 m 862 ls []) := by
  obtain ⟨hx, hb, hr, hml, hown, hts0, hSc, hbl, hlocks, hgv⟩ := id C0
  have hE := xs_E hts0
  have hts : ∀ w ∈ wsL_law, w.before #[Value.ref b] s = true := fun w h => hts0 w (wsL_law_in w h)
  have hA : ∀ q : Nat, s.heap.size ≤ q → A q := fun q h => by rw [← hAe]; exact h
  have hbA : ¬ A b := by rw [← hAe]; exact Nat.not_le.mpr hbl
  obtain ⟨g, hI, hR, tcp, tmo, J1, J2, hU, R_sz, R_wp⟩ := T
  unfold h_J2 at J2
  obtain ⟨lw, rlw, tlw⟩ := hR.at mo 10 tmo (rfl : h_rs 13 10 = some (1310, false)) (by decide)
  have alw : h_ad z mo 10 = lw := h_ad.at rlw
  obtain ⟨tb, rtb, ttb⟩ := hR.at mo 32 tmo (rfl : h_rs 13 32 = some (1332, false)) (by decide)
  have atb : h_ad z mo 32 = tb := h_ad.at rtb
  obtain ⟨bk, rbk, tbk⟩ := hR.at cp 3 tcp (rfl : h_rs 12 3 = some (1, false)) (by decide)
  have abk : h_ad z cp 3 = bk := h_ad.at rbk
  obtain ⟨pl, rpl, tpl⟩ := hR.at bk 1 tbk (rfl : h_rs 1 1 = some (101, false)) (by decide)
  have apl : h_ad z bk 1 = pl := h_ad.at rpl
  obtain ⟨ww, rww, tww⟩ := hR.at mo 38 tmo (rfl : h_rs 13 38 = some (1338, false)) (by decide)
  have aww : h_ad z mo 38 = ww := h_ad.at rww
  rw [alw] at J1
  rw [atb] at J2
  rw [abk] at R_sz
  rw [abk, apl, aww] at R_wp
  refine lv_aload_n hx hb dL_law_862 rfl (lv_at hl 2 rfl) ?_
  have hIo := hI
  refine va_calli (va_runV (As := []) (rest := []) ⟨hx, hb, hml, hown, hts⟩ (tX11_deal l E X A z I0 L0 cp tcp) (cwV 0 hts gL_law_X11_deal rfl rfl rfl (by decide +kernel) ⟨Nat.le_of_ble_eq_true rfl, Nat.le_of_ble_eq_true rfl⟩) ⟨h_blind _ _ _ _ _ _ _, h_recv g tcp (by decide) so_12 (q := (RX11, TX11, 8)) rfl, h_pre _ hE hk hX hA hI hR g⟩ rfl rfl hl.1 rfl (lv_room (Nat.le_of_ble_eq_true rfl)) dL_law_863 ⟨show cells + 0 ≤ 600000 by omega, show slots + 0 ≤ 7302250 by omega⟩) g.2.1 (fun q _ h => h) (fun q h => h) (fun rh1 I2 t H1 locs ht hvm h1 hB hz1 hk1 hS => ?_)
  obtain ⟨hI, fh1, h1⟩ := h1
  replace J1 : h_J1 (I2 lw) := by rw [show I2 lw = I0 lw from funext (fun k => fh1.at tlw rfl)]; exact J1
  rw [← fh1.at tmo rfl, show I0 tb = I2 tb from funext (fun k => (fh1.at ttb rfl).symm)] at J2
  replace R_sz : I2 bk 2 = I2 mo 13 := by rw [show I2 bk 2 = I0 bk 2 from fh1.at tbk rfl, show I2 mo 13 = I0 mo 13 from fh1.at tmo rfl]; exact R_sz
  replace R_wp : h_wp z I2 pl ww (I2 bk 2).toInt := by rw [show I2 bk 2 = I0 bk 2 from fh1.at tbk rfl]; exact R_wp.F hR tpl fh1 (fun _ => rfl) (fun k _ => fh1.at tww rfl)
  replace g := h_after g hB ht hS
  generalize H1 = H at g
  clear hB hk1 hz1 ht hvm hS
  refine lv_pop hx hb dL_law_866 rfl ?_
  refine lv_aload_n hx hb dL_law_867 rfl (lv_at hl 1 rfl) ?_
  have hIo := hI
  refine va_calli (va_runV (As := []) (rest := []) ⟨hx, hb, hml, hown, hts⟩ (tX12_deal l E X A z I2 L0 mo tmo) (cwV 0 hts gL_law_X12_deal rfl rfl rfl (by decide +kernel) ⟨Nat.le_of_ble_eq_true rfl, Nat.le_of_ble_eq_true rfl⟩) ⟨h_blind _ _ _ _ _ _ _, h_recv g tmo (by decide) so_13 (q := (RX12, TX12, 51)) rfl, h_pre _ hE hk hX hA hI hR g⟩ rfl rfl hl.1 rfl (lv_room (Nat.le_of_ble_eq_true rfl)) dL_law_868 ⟨show cells + 0 ≤ 600000 by omega, show slots + 0 ≤ 7302250 by omega⟩) g.2.1 (fun q _ h => h) (fun q h => h) (fun rh3 I4 t H1 locs ht hvm h3 hB hz1 hk1 hS => ?_)
  obtain ⟨hI, fh3, h3⟩ := h3
  replace J1 : h_J1 (I4 lw) := by rw [show I4 lw = I2 lw from funext (fun k => fh3.at tlw rfl)]; exact J1
  rw [← fh3.at tmo rfl, show I2 tb = I4 tb from funext (fun k => (fh3.at ttb rfl).symm)] at J2
  replace R_sz : I4 bk 2 = I4 mo 13 := by rw [show I4 bk 2 = I2 bk 2 from fh3.at tbk rfl, show I4 mo 13 = I2 mo 13 from fh3.at tmo rfl]; exact R_sz
  replace R_wp : h_wp z I4 pl ww (I4 bk 2).toInt := by rw [show I4 bk 2 = I2 bk 2 from fh3.at tbk rfl]; exact R_wp.F hR tpl fh3 (fun _ => rfl) (fun k _ => fh3.at tww rfl)
  replace g := h_after g hB ht hS
  generalize H1 = H at g
  clear hB hk1 hz1 ht hvm hS
  refine lv_pop hx hb dL_law_871 rfl ?_
  refine lv_goto (tgt := 1241) hx hb dL_law_872 (by decide) ?_
  exact W.widen (by omega) (by omega) (kk z I4 L0 _ _ _ ⟨g, hI, hR, tcp, tmo, by rw [alw]; exact J1, by unfold h_J2; rw [atb]; exact J2, hU, by rw [abk]; exact R_sz, by rw [abk, apl, aww]; exact R_wp⟩ hl)
set_option maxHeartbeats 8000000 in
set_option maxRecDepth 100000 in
theorem law_19 {p : Program} {l : Launch} {e : Env} {s : State} {m : MethodId} {below : List Frame} {meth : Method} {c : Code} {b L : Nat} {xs : Nat → Int32} (C0 : lw_At p s m meth c b L xs) (hL : L ≤ 4096) {A : Nat → Prop} (hAe : (fun q : Nat => s.heap.size ≤ q) = A) {E : tE} {X : tX} (hk : h_Kr X s) (hX : h_S X A s s.heap) {i : Int32} (hi0 : 0 ≤ i.toInt) (hi8 : i.toInt + 8 ≤ L) {cp mo : Nat} {cells slots : Nat} (hcl : cells ≤ 500000) (hsl : slots ≤ 7000000) {z : tZ} {I0 : tI} {L0 : tL} {H : Heap} {locs : List Loc} {ls : Array Slot} (T : h_T E A s z I0 L0 H locs cp mo) (hl : lv_has ls 4 [(3, .int i), (2, .ref mo), (1, .ref cp), (0, .ref b)]) (kk : ∀ (z : tZ) (I0 : tI) (L0 : tL) (H : Heap) (locs : List Loc) (ls : Array Slot), h_T E A s z I0 L0 H locs cp mo → lv_has ls 4 [(3, .int i), (2, .ref mo), (1, .ref cp), (0, .ref b)] → W p l e room_1 s m #[Value.ref b] below meth c H locs (cells + 3) (slots + 17) (lw_Z below #[Value.ref b] s) (F0 m 1241 ls [])) : W p l e room_1 s m #[Value.ref b] below meth c H locs cells slots (lw_Z below #[Value.ref b] s) (F0 m 875 ls []) := by
  obtain ⟨hx, hb, hr, hml, hown, hts0, hSc, hbl, hlocks, hgv⟩ := id C0
  have hE := xs_E hts0
  have hts : ∀ w ∈ wsL_law, w.before #[Value.ref b] s = true := fun w h => hts0 w (wsL_law_in w h)
  have hA : ∀ q : Nat, s.heap.size ≤ q → A q := fun q h => by rw [← hAe]; exact h
  have hbA : ¬ A b := by rw [← hAe]; exact Nat.not_le.mpr hbl
  obtain ⟨g, hI, hR, tcp, tmo, J1, J2, hU, R_sz, R_wp⟩ := T
  unfold h_J2 at J2
  obtain ⟨lw, rlw, tlw⟩ := hR.at mo 10 tmo (rfl : h_rs 13 10 = some (1310, false)) (by decide)
  have alw : h_ad z mo 10 = lw := h_ad.at rlw
  obtain ⟨tb, rtb, ttb⟩ := hR.at mo 32 tmo (rfl : h_rs 13 32 = some (1332, false)) (by decide)
  have atb : h_ad z mo 32 = tb := h_ad.at rtb
  obtain ⟨bk, rbk, tbk⟩ := hR.at cp 3 tcp (rfl : h_rs 12 3 = some (1, false)) (by decide)
  have abk : h_ad z cp 3 = bk := h_ad.at rbk
  obtain ⟨pl, rpl, tpl⟩ := hR.at bk 1 tbk (rfl : h_rs 1 1 = some (101, false)) (by decide)
  have apl : h_ad z bk 1 = pl := h_ad.at rpl
  obtain ⟨ww, rww, tww⟩ := hR.at mo 38 tmo (rfl : h_rs 13 38 = some (1338, false)) (by decide)
  have aww : h_ad z mo 38 = ww := h_ad.at rww
  rw [alw] at J1
  rw [atb] at J2
  rw [abk] at R_sz
  rw [abk, apl, aww] at R_wp
  refine lv_aload_n hx hb dL_law_875 rfl (lv_at hl 2 rfl) ?_
  refine lv_aload_n hx hb dL_law_876 rfl (lv_at hl 3 rfl) ?_
  refine lv_iload_n hx hb dL_law_877 rfl (lv_at hl 0 rfl) ?_
  refine lv_iconst (v := 1) hx hb dL_law_878 (by decide) ?_
  refine lv_iadd hx hb dL_law_879 ?_
  refine lv_topi (fun v1 ev1 => ?_)
  refine va_sld hx hb hSc hbl hbA g.2.1 (h_ix hi0 hi8 hL ev1 (k := 1) (by decide) (by decide) (by decide)) dL_law_880 ?_
  refine lv_topi (fun v2 ev2 => ?_)
  refine lv_aload_n hx hb dL_law_881 rfl (lv_at hl 3 rfl) ?_
  refine lv_iload_n hx hb dL_law_882 rfl (lv_at hl 0 rfl) ?_
  refine lv_iconst (v := 2) hx hb dL_law_883 (by decide) ?_
  refine lv_iadd hx hb dL_law_884 ?_
  refine lv_topi (fun v3 ev3 => ?_)
  refine va_sld hx hb hSc hbl hbA g.2.1 (h_ix hi0 hi8 hL ev3 (k := 2) (by decide) (by decide) (by decide)) dL_law_885 ?_
  refine lv_topi (fun v4 ev4 => ?_)
  refine lv_aload_n hx hb dL_law_886 rfl (lv_at hl 3 rfl) ?_
  refine lv_iload_n hx hb dL_law_887 rfl (lv_at hl 0 rfl) ?_
  refine lv_iconst (v := 3) hx hb dL_law_888 (by decide) ?_
  refine lv_iadd hx hb dL_law_889 ?_
  refine lv_topi (fun v5 ev5 => ?_)
  refine va_sld hx hb hSc hbl hbA g.2.1 (h_ix hi0 hi8 hL ev5 (k := 3) (by decide) (by decide) (by decide)) dL_law_890 ?_
  refine lv_topi (fun v6 ev6 => ?_)
  have hIo := hI
  refine va_calli (va_runV (As := [.int v2, .int v4, .int v6]) (rest := []) ⟨hx, hb, hml, hown, hts⟩ (tX11_worthF l E X A z I0 L0 cp tcp v2 (v2.toInt) rfl v4 (v4.toInt) rfl v6 (v6.toInt) rfl) (cwV 3 hts gL_law_X11_worth rfl rfl rfl (by decide +kernel) ⟨Nat.le_of_ble_eq_true rfl, Nat.le_of_ble_eq_true rfl⟩) ⟨h_blind _ _ _ _ _ _ _, h_recv g tcp (by decide) so_12 (q := (RX11, TX11, 8)) rfl, h_pre _ hE hk hX hA hI hR g⟩ rfl rfl hl.1 rfl (lv_room (Nat.le_of_ble_eq_true rfl)) dL_law_891 ⟨show cells + 0 ≤ 600000 by omega, show slots + 0 ≤ 7302250 by omega⟩) g.2.1 (fun q _ h => h) (fun q h => h) (fun rh7 I8 t H1 locs ht hvm h7 hB hz1 hk1 hS => ?_)
  obtain ⟨hI, fh7, h7⟩ := h7
  replace J1 : h_J1 (I8 lw) := by rw [show I8 lw = I0 lw from funext (fun k => fh7.at tlw rfl)]; exact J1
  rw [← fh7.at tmo rfl, show I0 tb = I8 tb from funext (fun k => (fh7.at ttb rfl).symm)] at J2
  replace R_sz : I8 bk 2 = I8 mo 13 := by rw [show I8 bk 2 = I0 bk 2 from fh7.at tbk rfl, show I8 mo 13 = I0 mo 13 from fh7.at tmo rfl]; exact R_sz
  have pwp := h7
  rw [abk, apl] at pwp
  have h60 := (hIo.rd bk 2 tbk rfl (rfl : h_bd 1 2 = (0, 60))).2
  have eb1 : I8 bk 2 = I0 bk 2 := fh7.at tbk rfl
  have e13 : (I8 mo 13).toInt = (I0 bk 2).toInt := by rw [← R_sz, eb1]
  replace g := h_after g hB ht hS
  generalize H1 = H at g
  clear hB hk1 hz1 ht hvm hS
  refine lv_aload_n hx hb dL_law_894 rfl (lv_at hl 1 rfl) ?_
  refine lv_aload_n hx hb dL_law_895 rfl (lv_at hl 3 rfl) ?_
  refine lv_iload_n hx hb dL_law_896 rfl (lv_at hl 0 rfl) ?_
  refine lv_iconst (v := 1) hx hb dL_law_897 (by decide) ?_
  refine lv_iadd hx hb dL_law_898 ?_
  refine lv_topi (fun v9 ev9 => ?_)
  refine va_sld hx hb hSc hbl hbA g.2.1 (h_ix hi0 hi8 hL ev9 (k := 1) (by decide) (by decide) (by decide)) dL_law_899 ?_
  refine xw_i (v := v2) (by rw [show v9 = v1 from ev9.trans ev1.symm]; exact ev2.symm) ?_
  refine lv_aload_n hx hb dL_law_900 rfl (lv_at hl 3 rfl) ?_
  refine lv_iload_n hx hb dL_law_901 rfl (lv_at hl 0 rfl) ?_
  refine lv_iconst (v := 2) hx hb dL_law_902 (by decide) ?_
  refine lv_iadd hx hb dL_law_903 ?_
  refine lv_topi (fun v11 ev11 => ?_)
  refine va_sld hx hb hSc hbl hbA g.2.1 (h_ix hi0 hi8 hL ev11 (k := 2) (by decide) (by decide) (by decide)) dL_law_904 ?_
  refine xw_i (v := v4) (by rw [show v11 = v3 from ev11.trans ev3.symm]; exact ev4.symm) ?_
  refine lv_aload_n hx hb dL_law_905 rfl (lv_at hl 3 rfl) ?_
  refine lv_iload_n hx hb dL_law_906 rfl (lv_at hl 0 rfl) ?_
  refine lv_iconst (v := 3) hx hb dL_law_907 (by decide) ?_
  refine lv_iadd hx hb dL_law_908 ?_
  refine lv_topi (fun v13 ev13 => ?_)
  refine va_sld hx hb hSc hbl hbA g.2.1 (h_ix hi0 hi8 hL ev13 (k := 3) (by decide) (by decide) (by decide)) dL_law_909 ?_
  refine xw_i (v := v6) (by rw [show v13 = v5 from ev13.trans ev5.symm]; exact ev6.symm) ?_
  have hIo := hI
  refine va_calli (va_runV (As := [.int v2, .int v4, .int v6]) (rest := [.int rh7]) ⟨hx, hb, hml, hown, hts⟩ (tX12_worthF l E X A z I8 L0 mo tmo v2 (v2.toInt) rfl v4 (v4.toInt) rfl v6 (v6.toInt) rfl) (cwV 3 hts gL_law_X12_worth rfl rfl rfl (by decide +kernel) ⟨Nat.le_of_ble_eq_true rfl, Nat.le_of_ble_eq_true rfl⟩) ⟨h_blind _ _ _ _ _ _ _, h_recv g tmo (by decide) so_13 (q := (RX12, TX12, 51)) rfl, h_pre _ hE hk hX hA hI hR g⟩ rfl rfl hl.1 rfl (lv_room (Nat.le_of_ble_eq_true rfl)) dL_law_910 ⟨show cells + 0 ≤ 600000 by omega, show slots + 0 ≤ 7302250 by omega⟩) g.2.1 (fun q _ h => h) (fun q h => h) (fun rh15 I16 t H1 locs ht hvm h15 hB hz1 hk1 hS => ?_)
  obtain ⟨hI, fh15, h15⟩ := h15
  replace J1 : h_J1 (I16 lw) := by rw [show I16 lw = I8 lw from funext (fun k => fh15.at tlw rfl)]; exact J1
  rw [← fh15.at tmo rfl, show I8 tb = I16 tb from funext (fun k => (fh15.at ttb rfl).symm)] at J2
  replace R_sz : I16 bk 2 = I16 mo 13 := by rw [show I16 bk 2 = I8 bk 2 from fh15.at tbk rfl, show I16 mo 13 = I8 mo 13 from fh15.at tmo rfl]; exact R_sz
  rw [aww, e13] at h15
  obtain ⟨same, Rn⟩ := R_wp.worth h60 hU hR tpl tww pwp h15 fh15
  replace R_wp : h_wp z I16 pl ww (I16 bk 2).toInt := by rw [show I16 bk 2 = I0 bk 2 from (fh15.at tbk rfl).trans eb1]; exact Rn
  replace g := h_after g hB ht hS
  generalize H1 = H at g
  clear hB hk1 hz1 ht hvm hS
  refine lv_icmp_eq (tgt := 1241) hx hb dL_law_913 (by decide) (fun c17 => ?_) (fun h => absurd (xi_ne h rfl rfl : rh7.toInt ≠ rh15.toInt) (by omega))
  have ic17 := (xi_eq c17 rfl rfl : rh7.toInt = rh15.toInt)
  exact W.widen (by omega) (by omega) (kk z I16 L0 _ _ _ ⟨g, hI, hR, tcp, tmo, by rw [alw]; exact J1, by unfold h_J2; rw [atb]; exact J2, hU, by rw [abk]; exact R_sz, by rw [abk, apl, aww]; exact R_wp⟩ hl)
set_option maxHeartbeats 8000000 in
set_option maxRecDepth 100000 in
theorem law_20 {p : Program} {l : Launch} {e : Env} {s : State} {m : MethodId} {below : List Frame} {meth : Method} {c : Code} {b L : Nat} {xs : Nat → Int32} (C0 : lw_At p s m meth c b L xs) (hL : L ≤ 4096) {A : Nat → Prop} (hAe : (fun q : Nat => s.heap.size ≤ q) = A) {E : tE} {X : tX} (hk : h_Kr X s) (hX : h_S X A s s.heap) {i : Int32} (hi0 : 0 ≤ i.toInt) (hi8 : i.toInt + 8 ≤ L) {cp mo : Nat} {cells slots : Nat} (hcl : cells ≤ 500000) (hsl : slots ≤ 7000000) {z : tZ} {I0 : tI} {L0 : tL} {H : Heap} {locs : List Loc} {ls : Array Slot} (T : h_T E A s z I0 L0 H locs cp mo) (hl : lv_has ls 4 [(3, .int i), (2, .ref mo), (1, .ref cp), (0, .ref b)]) (kk : ∀ (z : tZ) (I0 : tI) (L0 : tL) (H : Heap) (locs : List Loc) (ls : Array Slot), h_T E A s z I0 L0 H locs cp mo → lv_has ls 4 [(3, .int i), (2, .ref mo), (1, .ref cp), (0, .ref b)] → W p l e room_1 s m #[Value.ref b] below meth c H locs (cells + 3) (slots + 17) (lw_Z below #[Value.ref b] s) (F0 m 1241 ls [])) : W p l e room_1 s m #[Value.ref b] below meth c H locs cells slots (lw_Z below #[Value.ref b] s) (F0 m 918 ls []) := by
  obtain ⟨hx, hb, hr, hml, hown, hts0, hSc, hbl, hlocks, hgv⟩ := id C0
  have hE := xs_E hts0
  have hts : ∀ w ∈ wsL_law, w.before #[Value.ref b] s = true := fun w h => hts0 w (wsL_law_in w h)
  have hA : ∀ q : Nat, s.heap.size ≤ q → A q := fun q h => by rw [← hAe]; exact h
  have hbA : ¬ A b := by rw [← hAe]; exact Nat.not_le.mpr hbl
  obtain ⟨g, hI, hR, tcp, tmo, J1, J2, hU, R_sz, R_wp⟩ := T
  unfold h_J2 at J2
  obtain ⟨lw, rlw, tlw⟩ := hR.at mo 10 tmo (rfl : h_rs 13 10 = some (1310, false)) (by decide)
  have alw : h_ad z mo 10 = lw := h_ad.at rlw
  obtain ⟨tb, rtb, ttb⟩ := hR.at mo 32 tmo (rfl : h_rs 13 32 = some (1332, false)) (by decide)
  have atb : h_ad z mo 32 = tb := h_ad.at rtb
  obtain ⟨bk, rbk, tbk⟩ := hR.at cp 3 tcp (rfl : h_rs 12 3 = some (1, false)) (by decide)
  have abk : h_ad z cp 3 = bk := h_ad.at rbk
  obtain ⟨pl, rpl, tpl⟩ := hR.at bk 1 tbk (rfl : h_rs 1 1 = some (101, false)) (by decide)
  have apl : h_ad z bk 1 = pl := h_ad.at rpl
  obtain ⟨ww, rww, tww⟩ := hR.at mo 38 tmo (rfl : h_rs 13 38 = some (1338, false)) (by decide)
  have aww : h_ad z mo 38 = ww := h_ad.at rww
  rw [alw] at J1
  rw [atb] at J2
  rw [abk] at R_sz
  rw [abk, apl, aww] at R_wp
  refine lv_aload_n hx hb dL_law_918 rfl (lv_at hl 2 rfl) ?_
  refine lv_aload_n hx hb dL_law_919 rfl (lv_at hl 3 rfl) ?_
  refine lv_iload_n hx hb dL_law_920 rfl (lv_at hl 0 rfl) ?_
  refine lv_iconst (v := 1) hx hb dL_law_921 (by decide) ?_
  refine lv_iadd hx hb dL_law_922 ?_
  refine lv_topi (fun v1 ev1 => ?_)
  refine va_sld hx hb hSc hbl hbA g.2.1 (h_ix hi0 hi8 hL ev1 (k := 1) (by decide) (by decide) (by decide)) dL_law_923 ?_
  refine lv_topi (fun v2 ev2 => ?_)
  refine lv_aload_n hx hb dL_law_924 rfl (lv_at hl 3 rfl) ?_
  refine lv_iload_n hx hb dL_law_925 rfl (lv_at hl 0 rfl) ?_
  refine lv_iconst (v := 2) hx hb dL_law_926 (by decide) ?_
  refine lv_iadd hx hb dL_law_927 ?_
  refine lv_topi (fun v3 ev3 => ?_)
  refine va_sld hx hb hSc hbl hbA g.2.1 (h_ix hi0 hi8 hL ev3 (k := 2) (by decide) (by decide) (by decide)) dL_law_928 ?_
  refine lv_topi (fun v4 ev4 => ?_)
  refine lv_aload_n hx hb dL_law_929 rfl (lv_at hl 3 rfl) ?_
  refine lv_iload_n hx hb dL_law_930 rfl (lv_at hl 0 rfl) ?_
  refine lv_iconst (v := 3) hx hb dL_law_931 (by decide) ?_
  refine lv_iadd hx hb dL_law_932 ?_
  refine lv_topi (fun v5 ev5 => ?_)
  refine va_sld hx hb hSc hbl hbA g.2.1 (h_ix hi0 hi8 hL ev5 (k := 3) (by decide) (by decide) (by decide)) dL_law_933 ?_
  refine lv_topi (fun v6 ev6 => ?_)
  refine lv_aload_n hx hb dL_law_934 rfl (lv_at hl 3 rfl) ?_
  refine lv_iload_n hx hb dL_law_935 rfl (lv_at hl 0 rfl) ?_
  refine lv_iconst (v := 4) hx hb dL_law_936 (by decide) ?_
  refine lv_iadd hx hb dL_law_937 ?_
  refine lv_topi (fun v7 ev7 => ?_)
  refine va_sld hx hb hSc hbl hbA g.2.1 (h_ix hi0 hi8 hL ev7 (k := 4) (by decide) (by decide) (by decide)) dL_law_938 ?_
  refine lv_topi (fun v8 ev8 => ?_)
  have hIo := hI
  refine va_calli (va_runV (As := [.int v2, .int v4, .int v6, .int v8]) (rest := []) ⟨hx, hb, hml, hown, hts⟩ (tX11_worthTurn l E X A z I0 L0 cp tcp v2 (v2.toInt) rfl v4 (v4.toInt) rfl v6 (v6.toInt) rfl v8 (v8.toInt) rfl) (cwV 4 hts gL_law_X11_worthTurn rfl rfl rfl (by decide +kernel) ⟨Nat.le_of_ble_eq_true rfl, Nat.le_of_ble_eq_true rfl⟩) ⟨h_blind _ _ _ _ _ _ _, h_recv g tcp (by decide) so_12 (q := (RX11, TX11, 8)) rfl, h_pre _ hE hk hX hA hI hR g⟩ rfl rfl hl.1 rfl (lv_room (Nat.le_of_ble_eq_true rfl)) dL_law_939 ⟨show cells + 0 ≤ 600000 by omega, show slots + 0 ≤ 7302250 by omega⟩) g.2.1 (fun q _ h => h) (fun q h => h) (fun rh9 I10 t H1 locs ht hvm h9 hB hz1 hk1 hS => ?_)
  obtain ⟨hI, fh9, h9⟩ := h9
  replace J1 : h_J1 (I10 lw) := by rw [show I10 lw = I0 lw from funext (fun k => fh9.at tlw rfl)]; exact J1
  rw [← fh9.at tmo rfl, show I0 tb = I10 tb from funext (fun k => (fh9.at ttb rfl).symm)] at J2
  replace R_sz : I10 bk 2 = I10 mo 13 := by rw [show I10 bk 2 = I0 bk 2 from fh9.at tbk rfl, show I10 mo 13 = I0 mo 13 from fh9.at tmo rfl]; exact R_sz
  replace R_wp : h_wp z I10 pl ww (I10 bk 2).toInt := by rw [show I10 bk 2 = I0 bk 2 from fh9.at tbk rfl]; exact R_wp.F hR tpl fh9 (fun _ => rfl) (fun k _ => fh9.at tww rfl)
  replace g := h_after g hB ht hS
  generalize H1 = H at g
  clear hB hk1 hz1 ht hvm hS
  refine lv_pop hx hb dL_law_942 rfl ?_
  refine lv_aload_n hx hb dL_law_943 rfl (lv_at hl 1 rfl) ?_
  refine lv_aload_n hx hb dL_law_944 rfl (lv_at hl 3 rfl) ?_
  refine lv_iload_n hx hb dL_law_945 rfl (lv_at hl 0 rfl) ?_
  refine lv_iconst (v := 1) hx hb dL_law_946 (by decide) ?_
  refine lv_iadd hx hb dL_law_947 ?_
  refine lv_topi (fun v11 ev11 => ?_)
  refine va_sld hx hb hSc hbl hbA g.2.1 (h_ix hi0 hi8 hL ev11 (k := 1) (by decide) (by decide) (by decide)) dL_law_948 ?_
  refine xw_i (v := v2) (by rw [show v11 = v1 from ev11.trans ev1.symm]; exact ev2.symm) ?_
  refine lv_aload_n hx hb dL_law_949 rfl (lv_at hl 3 rfl) ?_
  refine lv_iload_n hx hb dL_law_950 rfl (lv_at hl 0 rfl) ?_
  refine lv_iconst (v := 2) hx hb dL_law_951 (by decide) ?_
  refine lv_iadd hx hb dL_law_952 ?_
  refine lv_topi (fun v13 ev13 => ?_)
  refine va_sld hx hb hSc hbl hbA g.2.1 (h_ix hi0 hi8 hL ev13 (k := 2) (by decide) (by decide) (by decide)) dL_law_953 ?_
  refine xw_i (v := v4) (by rw [show v13 = v3 from ev13.trans ev3.symm]; exact ev4.symm) ?_
  refine lv_aload_n hx hb dL_law_954 rfl (lv_at hl 3 rfl) ?_
  refine lv_iload_n hx hb dL_law_955 rfl (lv_at hl 0 rfl) ?_
  refine lv_iconst (v := 3) hx hb dL_law_956 (by decide) ?_
  refine lv_iadd hx hb dL_law_957 ?_
  refine lv_topi (fun v15 ev15 => ?_)
  refine va_sld hx hb hSc hbl hbA g.2.1 (h_ix hi0 hi8 hL ev15 (k := 3) (by decide) (by decide) (by decide)) dL_law_958 ?_
  refine xw_i (v := v6) (by rw [show v15 = v5 from ev15.trans ev5.symm]; exact ev6.symm) ?_
  refine lv_aload_n hx hb dL_law_959 rfl (lv_at hl 3 rfl) ?_
  refine lv_iload_n hx hb dL_law_960 rfl (lv_at hl 0 rfl) ?_
  refine lv_iconst (v := 4) hx hb dL_law_961 (by decide) ?_
  refine lv_iadd hx hb dL_law_962 ?_
  refine lv_topi (fun v17 ev17 => ?_)
  refine va_sld hx hb hSc hbl hbA g.2.1 (h_ix hi0 hi8 hL ev17 (k := 4) (by decide) (by decide) (by decide)) dL_law_963 ?_
  refine xw_i (v := v8) (by rw [show v17 = v7 from ev17.trans ev7.symm]; exact ev8.symm) ?_
  have hIo := hI
  refine va_calli (va_runV (As := [.int v2, .int v4, .int v6, .int v8]) (rest := []) ⟨hx, hb, hml, hown, hts⟩ (tX12_worthTurnF l E X A z I10 L0 mo tmo v2 (v2.toInt) rfl v4 (v4.toInt) rfl v6 (v6.toInt) rfl v8 (v8.toInt) rfl) (cwV 4 hts gL_law_X12_worthTurn rfl rfl rfl (by decide +kernel) ⟨Nat.le_of_ble_eq_true rfl, Nat.le_of_ble_eq_true rfl⟩) ⟨h_blind _ _ _ _ _ _ _, h_recv g tmo (by decide) so_13 (q := (RX12, TX12, 51)) rfl, h_pre _ hE hk hX hA hI hR g⟩ rfl rfl hl.1 rfl (lv_room (Nat.le_of_ble_eq_true rfl)) dL_law_964 ⟨show cells + 0 ≤ 600000 by omega, show slots + 0 ≤ 7302250 by omega⟩) g.2.1 (fun q _ h => h) (fun q h => h) (fun rh19 I20 t H1 locs ht hvm h19 hB hz1 hk1 hS => ?_)
  obtain ⟨hI, fh19, h19⟩ := h19
  replace J1 : h_J1 (I20 lw) := by rw [show I20 lw = I10 lw from funext (fun k => fh19.at tlw rfl)]; exact J1
  rw [← fh19.at tmo rfl, show I10 tb = I20 tb from funext (fun k => (fh19.at ttb rfl).symm)] at J2
  replace R_sz : I20 bk 2 = I20 mo 13 := by rw [show I20 bk 2 = I10 bk 2 from fh19.at tbk rfl, show I20 mo 13 = I10 mo 13 from fh19.at tmo rfl]; exact R_sz
  have pw2 : ∀ k : Nat, k % 140 < 60 → I20 ww k = I10 ww k := by
     have h9 := h19
     rw [aww] at h9
     intro k hk
     rcases h9 with ⟨_, _, q9⟩ | ⟨a9, _, _, q9⟩
     · exact q9 k
     · exact q9 k (by omega)
  replace R_wp : h_wp z I20 pl ww (I20 bk 2).toInt := by rw [show I20 bk 2 = I10 bk 2 from fh19.at tbk rfl]; exact R_wp.F hR tpl fh19 (fun _ => rfl) pw2
  replace g := h_after g hB ht hS
  generalize H1 = H at g
  clear hB hk1 hz1 ht hvm hS
  refine lv_pop hx hb dL_law_967 rfl ?_
  refine lv_goto (tgt := 1241) hx hb dL_law_968 (by decide) ?_
  exact W.widen (by omega) (by omega) (kk z I20 L0 _ _ _ ⟨g, hI, hR, tcp, tmo, by rw [alw]; exact J1, by unfold h_J2; rw [atb]; exact J2, hU, by rw [abk]; exact R_sz, by rw [abk, apl, aww]; exact R_wp⟩ hl)
set_option maxHeartbeats 8000000 in
set_option maxRecDepth 100000 in
theorem law_21 {p : Program} {l : Launch} {e : Env} {s : State} {m : MethodId} {below : List Frame} {meth : Method} {c : Code} {b L : Nat} {xs : Nat → Int32} (C0 : lw_At p s m meth c b L xs) (hL : L ≤ 4096) {A : Nat → Prop} (hAe : (fun q : Nat => s.heap.size ≤ q) = A) {E : tE} {X : tX} (hk : h_Kr X s) (hX : h_S X A s s.heap) {i : Int32} (hi0 : 0 ≤ i.toInt) (hi8 : i.toInt + 8 ≤ L) {cp mo : Nat} {cells slots : Nat} (hcl : cells ≤ 500000) (hsl : slots ≤ 7000000) {z : tZ} {I0 : tI} {L0 : tL} {H : Heap} {locs : List Loc} {ls : Array Slot} (T : h_T E A s z I0 L0 H locs cp mo) (hl : lv_has ls 4 [(3, .int i), (2, .ref mo), (1, .ref cp), (0, .ref b)]) (kk : ∀ (z : tZ) (I0 : tI) (L0 : tL) (H : Heap) (locs : List Loc) (ls : Array Slot), h_T E A s z I0 L0 H locs cp mo → lv_has ls 4 [(3, .int i), (2, .ref mo), (1, .ref cp), (0, .ref b)] → W p l e room_1 s m #[Value.ref b] below meth c H locs (cells + 3) (slots + 17) (lw_Z below #[Value.ref b] s) (F0 m 1241 ls [])) : W p l e room_1 s m #[Value.ref b] below meth c H locs cells slots (lw_Z below #[Value.ref b] s) (F0 m 971 ls []) := by
  obtain ⟨hx, hb, hr, hml, hown, hts0, hSc, hbl, hlocks, hgv⟩ := id C0
  have hE := xs_E hts0
  have hts : ∀ w ∈ wsL_law, w.before #[Value.ref b] s = true := fun w h => hts0 w (wsL_law_in w h)
  have hA : ∀ q : Nat, s.heap.size ≤ q → A q := fun q h => by rw [← hAe]; exact h
  have hbA : ¬ A b := by rw [← hAe]; exact Nat.not_le.mpr hbl
  obtain ⟨g, hI, hR, tcp, tmo, J1, J2, hU, R_sz, R_wp⟩ := T
  unfold h_J2 at J2
  obtain ⟨lw, rlw, tlw⟩ := hR.at mo 10 tmo (rfl : h_rs 13 10 = some (1310, false)) (by decide)
  have alw : h_ad z mo 10 = lw := h_ad.at rlw
  obtain ⟨tb, rtb, ttb⟩ := hR.at mo 32 tmo (rfl : h_rs 13 32 = some (1332, false)) (by decide)
  have atb : h_ad z mo 32 = tb := h_ad.at rtb
  obtain ⟨bk, rbk, tbk⟩ := hR.at cp 3 tcp (rfl : h_rs 12 3 = some (1, false)) (by decide)
  have abk : h_ad z cp 3 = bk := h_ad.at rbk
  obtain ⟨pl, rpl, tpl⟩ := hR.at bk 1 tbk (rfl : h_rs 1 1 = some (101, false)) (by decide)
  have apl : h_ad z bk 1 = pl := h_ad.at rpl
  obtain ⟨ww, rww, tww⟩ := hR.at mo 38 tmo (rfl : h_rs 13 38 = some (1338, false)) (by decide)
  have aww : h_ad z mo 38 = ww := h_ad.at rww
  rw [alw] at J1
  rw [atb] at J2
  rw [abk] at R_sz
  rw [abk, apl, aww] at R_wp
  refine lv_aload_n hx hb dL_law_971 rfl (lv_at hl 2 rfl) ?_
  have hIo := hI
  refine va_calli (va_runV (As := []) (rest := []) ⟨hx, hb, hml, hown, hts⟩ (tX11_ring l E X A z I0 L0 cp tcp) (cwV 0 hts gL_law_X11_ring rfl rfl rfl (by decide +kernel) ⟨Nat.le_of_ble_eq_true rfl, Nat.le_of_ble_eq_true rfl⟩) ⟨h_blind _ _ _ _ _ _ _, h_recv g tcp (by decide) so_12 (q := (RX11, TX11, 8)) rfl, h_pre _ hE hk hX hA hI hR g⟩ rfl rfl hl.1 rfl (lv_room (Nat.le_of_ble_eq_true rfl)) dL_law_972 ⟨show cells + 0 ≤ 600000 by omega, show slots + 0 ≤ 7302250 by omega⟩) g.2.1 (fun q _ h => h) (fun q h => h) (fun rh1 I2 t H1 locs ht hvm h1 hB hz1 hk1 hS => ?_)
  obtain ⟨hI, fh1, h1⟩ := h1
  replace J1 : h_J1 (I2 lw) := by rw [show I2 lw = I0 lw from funext (fun k => fh1.at tlw rfl)]; exact J1
  rw [← fh1.at tmo rfl, show I0 tb = I2 tb from funext (fun k => (fh1.at ttb rfl).symm)] at J2
  replace R_sz : I2 bk 2 = I2 mo 13 := by rw [show I2 bk 2 = I0 bk 2 from fh1.at tbk rfl, show I2 mo 13 = I0 mo 13 from fh1.at tmo rfl]; exact R_sz
  replace R_wp : h_wp z I2 pl ww (I2 bk 2).toInt := by rw [show I2 bk 2 = I0 bk 2 from fh1.at tbk rfl]; exact R_wp.F hR tpl fh1 (fun _ => rfl) (fun k _ => fh1.at tww rfl)
  replace g := h_after g hB ht hS
  generalize H1 = H at g
  clear hB hk1 hz1 ht hvm hS
  refine lv_pop hx hb dL_law_975 rfl ?_
  refine lv_aload_n hx hb dL_law_976 rfl (lv_at hl 1 rfl) ?_
  have hIo := hI
  refine va_calli (va_runV (As := []) (rest := []) ⟨hx, hb, hml, hown, hts⟩ (tX12_ring l E X A z I2 L0 mo tmo) (cwV 0 hts gL_law_X12_ring rfl rfl rfl (by decide +kernel) ⟨Nat.le_of_ble_eq_true rfl, Nat.le_of_ble_eq_true rfl⟩) ⟨h_blind _ _ _ _ _ _ _, h_recv g tmo (by decide) so_13 (q := (RX12, TX12, 51)) rfl, h_pre _ hE hk hX hA hI hR g⟩ rfl rfl hl.1 rfl (lv_room (Nat.le_of_ble_eq_true rfl)) dL_law_977 ⟨show cells + 0 ≤ 600000 by omega, show slots + 0 ≤ 7302250 by omega⟩) g.2.1 (fun q _ h => h) (fun q h => h) (fun rh3 I4 t H1 locs ht hvm h3 hB hz1 hk1 hS => ?_)
  obtain ⟨hI, fh3, h3⟩ := h3
  replace J1 : h_J1 (I4 lw) := by rw [show I4 lw = I2 lw from funext (fun k => fh3.at tlw rfl)]; exact J1
  rw [← fh3.at tmo rfl, show I2 tb = I4 tb from funext (fun k => (fh3.at ttb rfl).symm)] at J2
  replace R_sz : I4 bk 2 = I4 mo 13 := by rw [show I4 bk 2 = I2 bk 2 from fh3.at tbk rfl, show I4 mo 13 = I2 mo 13 from fh3.at tmo rfl]; exact R_sz
  replace R_wp : h_wp z I4 pl ww (I4 bk 2).toInt := by rw [show I4 bk 2 = I2 bk 2 from fh3.at tbk rfl]; exact R_wp.F hR tpl fh3 (fun _ => rfl) (fun k _ => fh3.at tww rfl)
  replace g := h_after g hB ht hS
  generalize H1 = H at g
  clear hB hk1 hz1 ht hvm hS
  refine lv_pop hx hb dL_law_980 rfl ?_
  refine lv_goto (tgt := 1241) hx hb dL_law_981 (by decide) ?_
  exact W.widen (by omega) (by omega) (kk z I4 L0 _ _ _ ⟨g, hI, hR, tcp, tmo, by rw [alw]; exact J1, by unfold h_J2; rw [atb]; exact J2, hU, by rw [abk]; exact R_sz, by rw [abk, apl, aww]; exact R_wp⟩ hl)
set_option maxHeartbeats 8000000 in
set_option maxRecDepth 100000 in
theorem law_22 {p : Program} {l : Launch} {e : Env} {s : State} {m : MethodId} {below : List Frame} {meth : Method} {c : Code} {b L : Nat} {xs : Nat → Int32} (C0 : lw_At p s m meth c b L xs) (hL : L ≤ 4096) {A : Nat → Prop} (hAe : (fun q : Nat => s.heap.size ≤ q) = A) {E : tE} {X : tX} (hk : h_Kr X s) (hX : h_S X A s s.heap) {i : Int32} (hi0 : 0 ≤ i.toInt) (hi8 : i.toInt + 8 ≤ L) {cp mo : Nat} {cells slots : Nat} (hcl : cells ≤ 500000) (hsl : slots ≤ 7000000) {z : tZ} {I0 : tI} {L0 : tL} {H : Heap} {locs : List Loc} {ls : Array Slot} (T : h_T E A s z I0 L0 H locs cp mo) (hl : lv_has ls 4 [(3, .int i), (2, .ref mo), (1, .ref cp), (0, .ref b)]) (kk : ∀ (z : tZ) (I0 : tI) (L0 : tL) (H : Heap) (locs : List Loc) (ls : Array Slot), h_T E A s z I0 L0 H locs cp mo → lv_has ls 4 [(3, .int i), (2, .ref mo), (1, .ref cp), (0, .ref b)] → W p l e room_1 s m #[Value.ref b] below meth c H locs (cells + 3) (slots + 17) (lw_Z below #[Value.ref b] s) (F0 m 1241 ls [])) : W p l e room_1 s m #[Value.ref b] below meth c H locs cells slots (lw_Z below #[Value.ref b] s) (F0 m 984 ls []) := by
  obtain ⟨hx, hb, hr, hml, hown, hts0, hSc, hbl, hlocks, hgv⟩ := id C0
  have hE := xs_E hts0
  have hts : ∀ w ∈ wsL_law, w.before #[Value.ref b] s = true := fun w h => hts0 w (wsL_law_in w h)
  have hA : ∀ q : Nat, s.heap.size ≤ q → A q := fun q h => by rw [← hAe]; exact h
  have hbA : ¬ A b := by rw [← hAe]; exact Nat.not_le.mpr hbl
  obtain ⟨g, hI, hR, tcp, tmo, J1, J2, hU, R_sz, R_wp⟩ := T
  unfold h_J2 at J2
  obtain ⟨lw, rlw, tlw⟩ := hR.at mo 10 tmo (rfl : h_rs 13 10 = some (1310, false)) (by decide)
  have alw : h_ad z mo 10 = lw := h_ad.at rlw
  obtain ⟨tb, rtb, ttb⟩ := hR.at mo 32 tmo (rfl : h_rs 13 32 = some (1332, false)) (by decide)
  have atb : h_ad z mo 32 = tb := h_ad.at rtb
  obtain ⟨bk, rbk, tbk⟩ := hR.at cp 3 tcp (rfl : h_rs 12 3 = some (1, false)) (by decide)
  have abk : h_ad z cp 3 = bk := h_ad.at rbk
  obtain ⟨pl, rpl, tpl⟩ := hR.at bk 1 tbk (rfl : h_rs 1 1 = some (101, false)) (by decide)
  have apl : h_ad z bk 1 = pl := h_ad.at rpl
  obtain ⟨ww, rww, tww⟩ := hR.at mo 38 tmo (rfl : h_rs 13 38 = some (1338, false)) (by decide)
  have aww : h_ad z mo 38 = ww := h_ad.at rww
  rw [alw] at J1
  rw [atb] at J2
  rw [abk] at R_sz
  rw [abk, apl, aww] at R_wp
  refine lv_aload_n hx hb dL_law_984 rfl (lv_at hl 2 rfl) ?_
  refine lv_aload_n hx hb dL_law_985 rfl (lv_at hl 3 rfl) ?_
  refine lv_iload_n hx hb dL_law_986 rfl (lv_at hl 0 rfl) ?_
  refine lv_iconst (v := 1) hx hb dL_law_987 (by decide) ?_
  refine lv_iadd hx hb dL_law_988 ?_
  refine lv_topi (fun v1 ev1 => ?_)
  refine va_sld hx hb hSc hbl hbA g.2.1 (h_ix hi0 hi8 hL ev1 (k := 1) (by decide) (by decide) (by decide)) dL_law_989 ?_
  refine lv_topi (fun v2 ev2 => ?_)
  refine vp_callSi (W.runV (As := [.int v2]) (rest := []) ⟨hx, hb, hml, hown, hts⟩ (tX11_ringed l E X A z I0 L0 cp tcp v2 (v2.toInt) rfl) (cwV 1 hts gL_law_X11_ringed rfl rfl rfl (by decide +kernel) ⟨Nat.le_of_ble_eq_true rfl, Nat.le_of_ble_eq_true rfl⟩) ⟨h_blind _ _ _ _ _ _ _, h_recv g tcp (by decide) so_12 (q := (RX11, TX11, 8)) rfl, h_pre _ hE hk hX hA hI hR g⟩ rfl rfl hl.1 rfl (lv_room (Nat.le_of_ble_eq_true rfl)) dL_law_990 ⟨show cells + 0 ≤ 600000 by omega, show slots + 0 ≤ 7302250 by omega⟩) (fun rh3 h3 => ?_)
  refine lv_pop hx hb dL_law_993 rfl ?_
  refine lv_aload_n hx hb dL_law_994 rfl (lv_at hl 1 rfl) ?_
  refine lv_aload_n hx hb dL_law_995 rfl (lv_at hl 3 rfl) ?_
  refine lv_iload_n hx hb dL_law_996 rfl (lv_at hl 0 rfl) ?_
  refine lv_iconst (v := 1) hx hb dL_law_997 (by decide) ?_
  refine lv_iadd hx hb dL_law_998 ?_
  refine lv_topi (fun v4 ev4 => ?_)
  refine va_sld hx hb hSc hbl hbA g.2.1 (h_ix hi0 hi8 hL ev4 (k := 1) (by decide) (by decide) (by decide)) dL_law_999 ?_
  refine xw_i (v := v2) (by rw [show v4 = v1 from ev4.trans ev1.symm]; exact ev2.symm) ?_
  refine vp_callSi (W.runV (As := [.int v2]) (rest := []) ⟨hx, hb, hml, hown, hts⟩ (tX12_ringed l E X A z I0 L0 mo tmo v2 (v2.toInt) rfl) (cwV 1 hts gL_law_X12_ringed rfl rfl rfl (by decide +kernel) ⟨Nat.le_of_ble_eq_true rfl, Nat.le_of_ble_eq_true rfl⟩) ⟨h_blind _ _ _ _ _ _ _, h_recv g tmo (by decide) so_13 (q := (RX12, TX12, 51)) rfl, h_pre _ hE hk hX hA hI hR g⟩ rfl rfl hl.1 rfl (lv_room (Nat.le_of_ble_eq_true rfl)) dL_law_1000 ⟨show cells + 0 ≤ 600000 by omega, show slots + 0 ≤ 7302250 by omega⟩) (fun rh6 h6 => ?_)
  refine lv_pop hx hb dL_law_1003 rfl ?_
  refine lv_goto (tgt := 1241) hx hb dL_law_1004 (by decide) ?_
  exact W.widen (by omega) (by omega) (kk z I0 L0 _ _ _ ⟨g, hI, hR, tcp, tmo, by rw [alw]; exact J1, by unfold h_J2; rw [atb]; exact J2, hU, by rw [abk]; exact R_sz, by rw [abk, apl, aww]; exact R_wp⟩ hl)
set_option maxHeartbeats 8000000 in
set_option maxRecDepth 100000 in
theorem law_23 {p : Program} {l : Launch} {e : Env} {s : State} {m : MethodId} {below : List Frame} {meth : Method} {c : Code} {b L : Nat} {xs : Nat → Int32} (C0 : lw_At p s m meth c b L xs) (hL : L ≤ 4096) {A : Nat → Prop} (hAe : (fun q : Nat => s.heap.size ≤ q) = A) {E : tE} {X : tX} (hk : h_Kr X s) (hX : h_S X A s s.heap) {i : Int32} (hi0 : 0 ≤ i.toInt) (hi8 : i.toInt + 8 ≤ L) {cp mo : Nat} {cells slots : Nat} (hcl : cells ≤ 500000) (hsl : slots ≤ 7000000) {z : tZ} {I0 : tI} {L0 : tL} {H : Heap} {locs : List Loc} {ls : Array Slot} (T : h_T E A s z I0 L0 H locs cp mo) (hl : lv_has ls 4 [(3, .int i), (2, .ref mo), (1, .ref cp), (0, .ref b)]) (kk : ∀ (z : tZ) (I0 : tI) (L0 : tL) (H : Heap) (locs : List Loc) (ls : Array Slot), h_T E A s z I0 L0 H locs cp mo → lv_has ls 4 [(3, .int i), (2, .ref mo), (1, .ref cp), (0, .ref b)] → W p l e room_1 s m #[Value.ref b] below meth c H locs (cells + 3) (slots + 17) (lw_Z below #[Value.ref b] s) (F0 m 1241 ls [])) : W p l e room_1 s m #[Value.ref b] below meth c H locs cells slots (lw_Z below #[Value.ref b] s) (F0 m 1007 ls []) := by
  obtain ⟨hx, hb, hr, hml, hown, hts0, hSc, hbl, hlocks, hgv⟩ := id C0
  have hE := xs_E hts0
  have hts : ∀ w ∈ wsL_law, w.before #[Value.ref b] s = true := fun w h => hts0 w (wsL_law_in w h)
  have hA : ∀ q : Nat, s.heap.size ≤ q → A q := fun q h => by rw [← hAe]; exact h
  have hbA : ¬ A b := by rw [← hAe]; exact Nat.not_le.mpr hbl
  obtain ⟨g, hI, hR, tcp, tmo, J1, J2, hU, R_sz, R_wp⟩ := T
  unfold h_J2 at J2
  obtain ⟨lw, rlw, tlw⟩ := hR.at mo 10 tmo (rfl : h_rs 13 10 = some (1310, false)) (by decide)
  have alw : h_ad z mo 10 = lw := h_ad.at rlw
  obtain ⟨tb, rtb, ttb⟩ := hR.at mo 32 tmo (rfl : h_rs 13 32 = some (1332, false)) (by decide)
  have atb : h_ad z mo 32 = tb := h_ad.at rtb
  obtain ⟨bk, rbk, tbk⟩ := hR.at cp 3 tcp (rfl : h_rs 12 3 = some (1, false)) (by decide)
  have abk : h_ad z cp 3 = bk := h_ad.at rbk
  obtain ⟨pl, rpl, tpl⟩ := hR.at bk 1 tbk (rfl : h_rs 1 1 = some (101, false)) (by decide)
  have apl : h_ad z bk 1 = pl := h_ad.at rpl
  obtain ⟨ww, rww, tww⟩ := hR.at mo 38 tmo (rfl : h_rs 13 38 = some (1338, false)) (by decide)
  have aww : h_ad z mo 38 = ww := h_ad.at rww
  rw [alw] at J1
  rw [atb] at J2
  rw [abk] at R_sz
  rw [abk, apl, aww] at R_wp
  refine lv_aload_n hx hb dL_law_1007 rfl (lv_at hl 2 rfl) ?_
  have hIo := hI
  refine va_calli (va_runV (As := []) (rest := []) ⟨hx, hb, hml, hown, hts⟩ (tX11_table l E X A z I0 L0 cp tcp) (cwV 0 hts gL_law_X11_table rfl rfl rfl (by decide +kernel) ⟨Nat.le_of_ble_eq_true rfl, Nat.le_of_ble_eq_true rfl⟩) ⟨h_blind _ _ _ _ _ _ _, h_recv g tcp (by decide) so_12 (q := (RX11, TX11, 8)) rfl, h_pre _ hE hk hX hA hI hR g⟩ rfl rfl hl.1 rfl (lv_room (Nat.le_of_ble_eq_true rfl)) dL_law_1008 ⟨show cells + 0 ≤ 600000 by omega, show slots + 0 ≤ 7302250 by omega⟩) g.2.1 (fun q _ h => h) (fun q h => h) (fun rh1 I2 t H1 locs ht hvm h1 hB hz1 hk1 hS => ?_)
  obtain ⟨hI, fh1, h1⟩ := h1
  replace J1 : h_J1 (I2 lw) := by rw [show I2 lw = I0 lw from funext (fun k => fh1.at tlw rfl)]; exact J1
  rw [← fh1.at tmo rfl, show I0 tb = I2 tb from funext (fun k => (fh1.at ttb rfl).symm)] at J2
  replace R_sz : I2 bk 2 = I2 mo 13 := by rw [show I2 bk 2 = I0 bk 2 from fh1.at tbk rfl, show I2 mo 13 = I0 mo 13 from fh1.at tmo rfl]; exact R_sz
  replace R_wp : h_wp z I2 pl ww (I2 bk 2).toInt := by rw [show I2 bk 2 = I0 bk 2 from fh1.at tbk rfl]; exact R_wp.F hR tpl fh1 (fun _ => rfl) (fun k _ => fh1.at tww rfl)
  replace g := h_after g hB ht hS
  generalize H1 = H at g
  clear hB hk1 hz1 ht hvm hS
  refine lv_pop hx hb dL_law_1011 rfl ?_
  refine lv_aload_n hx hb dL_law_1012 rfl (lv_at hl 1 rfl) ?_
  have hIo := hI
  refine va_calli (va_runV (As := []) (rest := []) ⟨hx, hb, hml, hown, hts⟩ (tX12_table l E X A z I2 L0 mo tmo (by rw [atb]; exact J2)) (cwV 0 hts gL_law_X12_table rfl rfl rfl (by decide +kernel) ⟨Nat.le_of_ble_eq_true rfl, Nat.le_of_ble_eq_true rfl⟩) ⟨h_blind _ _ _ _ _ _ _, h_recv g tmo (by decide) so_13 (q := (RX12, TX12, 51)) rfl, h_pre _ hE hk hX hA hI hR g⟩ rfl rfl hl.1 rfl (lv_room (Nat.le_of_ble_eq_true rfl)) dL_law_1013 ⟨show cells + 0 ≤ 600000 by omega, show slots + 0 ≤ 7302250 by omega⟩) g.2.1 (fun q _ h => h) (fun q h => h) (fun rh3 I4 t H1 locs ht hvm h3 hB hz1 hk1 hS => ?_)
  obtain ⟨hI, fh3, h3⟩ := h3
  replace J1 : h_J1 (I4 lw) := by rw [show I4 lw = I2 lw from funext (fun k => fh3.at tlw rfl)]; exact J1
  rw [atb] at h3
  replace J2 := h3
  replace R_sz : I4 bk 2 = I4 mo 13 := by rw [show I4 bk 2 = I2 bk 2 from fh3.at tbk rfl, show I4 mo 13 = I2 mo 13 from fh3.at tmo rfl]; exact R_sz
  replace R_wp : h_wp z I4 pl ww (I4 bk 2).toInt := by rw [show I4 bk 2 = I2 bk 2 from fh3.at tbk rfl]; exact R_wp.F hR tpl fh3 (fun _ => rfl) (fun k _ => fh3.at tww rfl)
  replace g := h_after g hB ht hS
  generalize H1 = H at g
  clear hB hk1 hz1 ht hvm hS
  refine lv_pop hx hb dL_law_1016 rfl ?_
  refine lv_goto (tgt := 1241) hx hb dL_law_1017 (by decide) ?_
  exact W.widen (by omega) (by omega) (kk z I4 L0 _ _ _ ⟨g, hI, hR, tcp, tmo, by rw [alw]; exact J1, by unfold h_J2; rw [atb]; exact J2, hU, by rw [abk]; exact R_sz, by rw [abk, apl, aww]; exact R_wp⟩ hl)
