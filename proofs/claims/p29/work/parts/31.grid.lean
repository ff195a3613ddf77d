/-! a grid is made: a row of rows -/
def h_gr (q N j : Nat) : Option Nat := if j < N then some (q + 1 + j) else none
def tZ.nwg (z : tZ) (q t tr N : Nat) : tZ := (fun b => if b = q then t else if q < b ∧ b ≤ q + N then tr else z.ty b, fun b => if b = q then h_gr q N else if q < b ∧ b ≤ q + N then (fun _ => none) else z.R b)
def h_rows (I : tI) (q N : Nat) : tI := fun b => if q ≤ b ∧ b ≤ q + N then (fun _ => 0) else I b
theorem ng_te {z : tZ} {q t tr N : Nat} : (z.nwg q t tr N).ty q = t := if_pos rfl
theorem ng_tr {z : tZ} {q t tr N b : Nat} (h1 : q < b) (h2 : b ≤ q + N) : (z.nwg q t tr N).ty b = tr := by
  show (if b = q then t else if q < b ∧ b ≤ q + N then tr else z.ty b) = tr
  rw [if_neg (by omega), if_pos ⟨h1, h2⟩]
theorem ng_tn {z : tZ} {q t tr N b : Nat} (h : ¬ (q ≤ b ∧ b ≤ q + N)) : (z.nwg q t tr N).ty b = z.ty b := by
  show (if b = q then t else if q < b ∧ b ≤ q + N then tr else z.ty b) = z.ty b
  rw [if_neg (by omega), if_neg (by omega)]
theorem ng_re {z : tZ} {q t tr N : Nat} : (z.nwg q t tr N).R q = h_gr q N := if_pos rfl
theorem ng_rn {z : tZ} {q t tr N b : Nat} (h : ¬ (q ≤ b ∧ b ≤ q + N)) : (z.nwg q t tr N).R b = z.R b := by
  show (if b = q then h_gr q N else if q < b ∧ b ≤ q + N then (fun _ => none) else z.R b) = z.R b
  rw [if_neg (by omega), if_neg (by omega)]
theorem h_rows_e {I : tI} {q N b : Nat} (h : q ≤ b ∧ b ≤ q + N) : h_rows I q N b = fun _ => 0 := if_pos h
theorem h_rows_n {I : tI} {q N b : Nat} (h : ¬ (q ≤ b ∧ b ≤ q + N)) : h_rows I q N b = I b := if_neg h
theorem h_I.nwg {z : tZ} {I : tI} (h : h_I z I) {q t tr N : Nat} : h_I (z.nwg q t tr N) (h_rows I q N) := by
  intro b k
  by_cases hb : q ≤ b ∧ b ≤ q + N
  · rw [h_rows_e hb]
    exact h_bd0 _ k
  · rw [h_rows_n hb, ng_tn hb]
    exact h b k
theorem h_R.nwg {z : tZ} (h : h_R z) {q t tr N : Nat} (h0 : ∀ b, q ≤ b → b ≤ q + N → z.ty b = 0) (ht : ∀ (k t' : Nat) (n : Bool), h_rs t k = some (t', n) → t' = tr) (hl : h_len (h_so t) = N) (htr : ∀ k : Nat, h_rs tr k = none) : h_R (z.nwg q t tr N) := by
  intro b k t' n hr hk
  by_cases hq : b = q
  · subst hq
    rw [ng_te] at hr hk
    rw [hl] at hk
    refine Or.inr ⟨b + 1 + k, ?_, ?_⟩
    · rw [ng_re]
      exact if_pos hk
    · rw [ht k t' n hr]
      exact ng_tr (by omega) (by omega)
  · by_cases hb : q ≤ b ∧ b ≤ q + N
    · rw [ng_tr (by omega) hb.2, htr] at hr
      cases hr
    · rw [ng_tn hb] at hr hk
      rw [ng_rn hb]
      rcases h b k t' n hr hk with h1 | ⟨c, h1, h2⟩
      · exact Or.inl h1
      · refine Or.inr ⟨c, h1, ?_⟩
        rw [ng_tn, h2]
        intro hc
        exact h_rs0 hr (h2.symm.trans (h0 c hc.1 hc.2))
theorem h_X.nwg {M : List (Nat × Nat)} {MR : List Nat} {e : Option Nat} {z z1 : tZ} {I I1 : tI} {L L1 : tL} (h : h_X M MR e z I L z1 I1 L1) {q t tr N : Nat} (h0 : ∀ b, q ≤ b → b ≤ q + N → z1.ty b = 0) : h_X M MR e z I L (z1.nwg q t tr N) (h_rows I1 q N) L1 := by
  intro b hb he
  obtain ⟨h1, h2, h3, h4⟩ := h b hb he
  have hq : ¬ (q ≤ b ∧ b ≤ q + N) := fun hq => hb (h1.symm.trans (h0 b hq.1 hq.2))
  rw [ng_tn hq, ng_rn hq, h_rows_n hq]
  exact ⟨h1, h2, h3, h4⟩
theorem h_ngk {z : tZ} {q t tr N b t' : Nat} (h0 : ∀ b, q ≤ b → b ≤ q + N → z.ty b = 0) (hb : z.ty b = t') (ht : t' ≠ 0) : (z.nwg q t tr N).ty b = t' := by
  rw [ng_tn, hb]
  exact fun h => ht (hb.symm.trans (h0 b h.1 h.2))
theorem h_ngr {z : tZ} {q t tr N b t' k : Nat} {v : Option Nat} (h0 : ∀ b, q ≤ b → b ≤ q + N → z.ty b = 0) (hb : z.ty b = t') (ht : t' ≠ 0) (hr : z.R b k = v) : (z.nwg q t tr N).R b k = v := by
  rw [ng_rn, hr]
  exact fun h => ht (hb.symm.trans (h0 b h.1 h.2))
theorem h_xm0 {q N M : Nat} {cO cI : ClassId} : (xm_new q N M cO cI)[0]? = some (q, .inl (cO, N, .inr (.inr (.inr (.inr (h_gr q N)))))) := rfl
theorem h_xmr {q N M j : Nat} {cO cI : ClassId} (hj : j < N) : (xm_new q N M cO cI)[j + 1]? = some (q + 1 + j, .inl (cI, M, .inl (fun _ => 0))) := by
  show (xm_rows q N M cI)[j]? = _
  unfold xm_rows
  simp [hj]
section HG
variable {p : Program} {l : Launch} {e : Env} {R : Room} {s : State} {m : MethodId} {args : Array Value} {below : List Frame} {meth : Method} {c : Code} {H : Heap} {locs : List Loc} {cells slots : Nat} {Q : State → Prop}
variable {cc : ByteArray} {pc : Nat} {ls : Array Slot} {rest : List Value} {A : Nat → Prop} {a : Nat} {H0 : Heap} {E : tE} {z : tZ} {I : tI} {L : tL}
theorem h_newG (hexec : p.tables.exec = Jvm.exec) (hb : c.code = cc) {own : String} {index : Nat} (hown : s.vm.findClass own = some m.cls) (hclink : (Cond.classLink own index "[[I").before args s = true) (hover : xG s) (harr : (Cond.arrayClass .int).before args s = true) (g : h_G h_so h_fk E A z I L s H0 H locs) (hA : ∀ q, H0.size ≤ q → A q)
    {n k : Int32} {N M t tr : Nat} (hso : h_so t = .inr (.long, N)) (hso2 : h_so tr = .inr (.int, M)) (hn : ¬ n < 0) (hk : ¬ k < 0) (hN : n.toNatClampNeg = N) (hM : k.toNatClampNeg = M) (hb1 : N * 4 ≤ 536870912) (hb2 : M * 4 ≤ 536870912) (hcells : cells + (1 + N) ≤ R.cells) (hslots : slots + (N + N * M) ≤ R.slots) (hdg : decode cc pc = .ok (.multianewarray index 2, 4))
    (kk : ∀ (q : Nat) (H : Heap) (locs : List Loc), (∀ b, q ≤ b → b ≤ q + N → z.ty b = 0) → h_G h_so h_fk E A (z.nwg q t tr N) (h_rows I q N) L s H0 H locs → W p l e R s m args below meth c H locs (cells + 1 + N) (slots + N + N * M) Q (F0 m (pc + 4) ls (.ref q :: rest))) : W p l e R s m args below meth c H locs cells slots Q (F0 m pc ls (.int k :: .int n :: rest)) := by
  obtain ⟨hK, hS, ws, hP, hD, hW⟩ := g
  refine xm_multi (N := N) (M := M) hexec hb hown hclink hover harr hK hP hD hS hA hn hk hN hM hb1 hb2 hcells hslots hdg (fun q cO cI H1 locs1 hK1 hP1 hD1 hS1 => ?_)
  have eO : cO = E.cA := h_uni (hK1.2 6 (cO, .array .int) rfl).2 (hK1.2 5 (E.cA, .array .int) rfl).2
  have eI : cI = E.ci := h_uni (hK1.2 7 (cI, .int) rfl).2 (hK1.2 0 (E.ci, .int) rfl).2
  subst eO
  subst eI
  have at_ : ∀ b, q ≤ b → b ≤ q + N → ∃ x : va_E, (ws ++ xm_new q N M E.cA E.ci)[ws.length + (b - q)]? = some (b, x) := by
    intro b h1 h2
    rw [List.getElem?_append_right (by omega), show ws.length + (b - q) - ws.length = b - q by omega]
    by_cases hq : b = q
    · subst hq
      rw [show b - b = 0 by omega]
      exact ⟨_, h_xm0⟩
    · refine ⟨.inl (E.ci, M, .inl (fun _ => 0)), ?_⟩
      rw [show b - q = (b - q - 1) + 1 by omega, h_xmr (by omega), show q + 1 + (b - q - 1) = b by omega]
  have h0 : ∀ b, q ≤ b → b ≤ q + N → z.ty b = 0 := by
    intro b h1 h2
    refine Decidable.byContradiction fun hn => ?_
    obtain ⟨i, hi⟩ := hW b hn
    have hlt : i < ws.length := (List.getElem?_eq_some_iff.mp hi).1
    obtain ⟨x, hx⟩ := at_ b h1 h2
    have h3 : (ws ++ xm_new q N M E.cA E.ci)[i]? = some (b, h_cell h_so h_fk E z I L b) := by rw [List.getElem?_append_left hlt]; exact hi
    have := hD1.1 _ _ _ _ h3 hx rfl
    omega
  refine kk q H1 locs1 h0 ⟨hK, hS1, _, hP1, hD1, fun b hb => ?_⟩
  by_cases hr : q ≤ b ∧ b ≤ q + N
  · refine ⟨ws.length + (b - q), ?_⟩
    rw [List.getElem?_append_right (by omega), show ws.length + (b - q) - ws.length = b - q by omega]
    by_cases hq : b = q
    · subst hq
      rw [show b - b = 0 by omega, h_xm0]
      unfold h_cell
      rw [ng_te, hso, ng_re]
    · rw [show b - q = (b - q - 1) + 1 by omega, h_xmr (by omega), show q + 1 + (b - q - 1) = b by omega]
      unfold h_cell
      rw [ng_tr (by omega) hr.2, hso2, h_rows_e hr]
  · rw [ng_tn hr] at hb
    obtain ⟨i, hi⟩ := hW b hb
    have hlt : i < ws.length := (List.getElem?_eq_some_iff.mp hi).1
    exact ⟨i, by rw [List.getElem?_append_left hlt, hi, h_cell_pt (z := z) (z1 := z.nwg q t tr N) (ng_tn hr) (h_rows_n hr) (ng_rn hr) rfl]⟩
end HG
theorem h_neq {z : tZ} {a b t : Nat} (ha : z.ty a = t) (ht : t ≠ 0) (hb : z.ty b = 0) : a ≠ b := by
  intro h
  subst h
  exact ht (ha.symm.trans hb)
theorem h_sne {z : tZ} {a b t t' : Nat} (ha : z.ty a = t) (hb : z.ty b = t') (ht : t ≠ t') : some a ≠ some b := by
  intro h
  cases h
  exact ht (ha.symm.trans hb)
theorem h_hz {I I1 : tI} {a k : Nat} {F : Nat → Int32} {v : Int32} (hz : I a = F) (e : I1 = h_up I a k v) : I1 a = fun j => if j = k then v else F j := by
  rw [e]
  funext j
  show (if a = a then (if j = k then v else I a j) else I a j) = _
  rw [if_pos rfl, hz]
theorem h_rtk {z : tZ} {a b t t' r : Nat} (hb : z.ty b = t') (ha : z.ty a = r) (hne : t' ≠ r) : (z.rt a t).ty b = t' := by
  rw [rt_n, hb]
  intro h
  subst h
  exact hne (hb.symm.trans ha)
theorem h_ne2 {z : tZ} {a b t t' : Nat} (ha : z.ty a = t) (hb : z.ty b = t') (ht : t ≠ t') : a ≠ b := by
  intro h
  subst h
  exact ht (ha.symm.trans hb)
theorem h_J1_init {f : Nat → Int32} (h0 : ∀ k : Nat, k < 176 → f k = 0) (h1 : (f 184).toInt = 1) (h2 : (f 185).toInt = 1) : h_J1 f := by
  intro y hy hy10 i hi hc
  by_cases e : y = 11
  · subst e
    rw [show 16 * 11 + 8 = 184 by rfl, h1] at hc
    have e2 : i = 0 := by omega
    subst e2
    rw [show 16 * 11 + 9 + 0 = 185 by rfl, h2]
    decide
  · rw [h0 _ (by omega)] at hc
    have e3 : (0 : Int32).toInt = 0 := by decide
    rw [e3] at hc
    omega

