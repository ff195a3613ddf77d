/-! new cells over the tables; a cell under construction has a raw kind -/
theorem h_uni {s : State} {c d : ClassId} {ty : FieldType} (h : va_RA s c ty) (h2 : va_RA s d ty) : c = d := by
  cases ty
  case object C =>
    obtain ⟨-, -, -, -, -, q1⟩ := h
    obtain ⟨-, -, -, -, -, q2⟩ := h2
    exact Option.some.inj (q1.symm.trans q2)
  all_goals exact Option.some.inj (Eq.trans (Eq.symm h) h2)
def tZ.nw (z : tZ) (a t : Nat) (f : Nat → Option Nat) : tZ := (fun b => if b = a then t else z.ty b, fun b => if b = a then f else z.R b)
theorem nw_te {z : tZ} {a t : Nat} {f : Nat → Option Nat} : (z.nw a t f).ty a = t := if_pos rfl
theorem nw_tn {z : tZ} {a b t : Nat} {f : Nat → Option Nat} (h : b ≠ a) : (z.nw a t f).ty b = z.ty b := if_neg h
theorem nw_re {z : tZ} {a t : Nat} {f : Nat → Option Nat} : (z.nw a t f).R a = f := if_pos rfl
theorem nw_rn {z : tZ} {a b t : Nat} {f : Nat → Option Nat} (h : b ≠ a) : (z.nw a t f).R b = z.R b := if_neg h
theorem h_cell_pt {E : tE} {z z1 : tZ} {I I1 : tI} {L L1 : tL} {b : Nat} (hty : z1.ty b = z.ty b) (h1 : I1 b = I b) (h2 : z1.R b = z.R b) (h3 : L1 b = L b) : h_cell h_so h_fk E z1 I1 L1 b = h_cell h_so h_fk E z I L b := by
  unfold h_cell
  rw [hty, h1, h2]
  rcases h_so (z.ty b) with ⟨ci, n⟩ | ⟨q, n⟩
  · simp only [h_fv_ne (fk := h_fk ci) h1 h2 h3]
  · cases q <;> rfl
def h_rL (L : tL) (a : Nat) (f : Nat → Int64) : tL := fun b => if b = a then f else L b
theorem h_row_e {I : tI} {a : Nat} {f : Nat → Int32} : h_row I a f a = f := if_pos rfl
theorem h_row_n {I : tI} {a b : Nat} {f : Nat → Int32} (h : b ≠ a) : h_row I a f b = I b := if_neg h
theorem h_rL_e {L : tL} {a : Nat} {f : Nat → Int64} : h_rL L a f a = f := if_pos rfl
theorem h_rL_n {L : tL} {a b : Nat} {f : Nat → Int64} (h : b ≠ a) : h_rL L a f b = L b := if_neg h
theorem h_W.app {E : tE} {z : tZ} {I I1 : tI} {L L1 : tL} {ws : va_W} {A : Nat → Prop} {q t : Nat} {f : Nat → Option Nat} {e : va_E} (hW : h_W h_so h_fk E z I L ws) (hD : va_D A (ws ++ [(q, e)])) (he : h_cell h_so h_fk E (z.nw q t f) I1 L1 q = e) (hI : ∀ b, b ≠ q → I1 b = I b) (hL : ∀ b, b ≠ q → L1 b = L b) : z.ty q = 0 ∧ h_W h_so h_fk E (z.nw q t f) I1 L1 (ws ++ [(q, e)]) := by
  refine ⟨Decidable.byContradiction fun hn => ?_, fun b hb => ?_⟩
  · obtain ⟨k, hk⟩ := hW q hn
    have hlt : k < ws.length := (List.getElem?_eq_some_iff.mp hk).1
    have h1 : (ws ++ [(q, e)])[k]? = some (q, h_cell h_so h_fk E z I L q) := by rw [List.getElem?_append_left hlt]; exact hk
    have h2 : (ws ++ [(q, e)])[ws.length]? = some (q, e) := by simp
    have := hD.1 _ _ _ _ h1 h2 rfl
    omega
  · by_cases hbq : b = q
    · subst hbq
      exact ⟨ws.length, by simp [he]⟩
    · rw [nw_tn hbq] at hb
      obtain ⟨k, hk⟩ := hW b hb
      have hlt : k < ws.length := (List.getElem?_eq_some_iff.mp hk).1
      exact ⟨k, by rw [List.getElem?_append_left hlt, hk, h_cell_pt (nw_tn hbq) (hI b hbq) (nw_rn hbq) (hL b hbq)]⟩
theorem h_bl0 : ∀ q ∈ h_bl, q.2.2.1 ≤ 0 ∧ 0 ≤ q.2.2.2 := by decide +kernel
theorem h_bd0 (t k : Nat) : (h_bd t k).1 ≤ 0 ∧ 0 ≤ (h_bd t k).2 := by
  unfold h_bd
  split
  · unfold h_lb
    split
    · decide
    · split <;> decide
  · split
    · rename_i q hq
      exact h_bl0 q (List.mem_of_find?_eq_some hq)
    · decide
theorem h_rl0 : ∀ q ∈ h_rl, q.2.2.1 ≠ 0 := by decide +kernel
theorem h_rs0 {t k t' : Nat} {n : Bool} (h : h_rs t k = some (t', n)) : t' ≠ 0 := by
  unfold h_rs at h
  split at h
  · rename_i q hq
    have := h_rl0 q (List.mem_of_find?_eq_some hq)
    rw [Option.some.inj h] at this
    exact this
  · cases h
theorem h_I.nw {z : tZ} {I : tI} (h : h_I z I) {q t : Nat} {f : Nat → Option Nat} : h_I (z.nw q t f) (h_row I q (fun _ => 0)) := by
  intro b k
  by_cases hb : b = q
  · subst hb
    rw [nw_te, h_row_e]
    exact h_bd0 t k
  · rw [nw_tn hb, h_row_n hb]
    exact h b k
theorem h_R.nw {z : tZ} (h : h_R z) {q t : Nat} {f : Nat → Option Nat} (h0 : z.ty q = 0) (hf : ∀ (k t' : Nat) (n : Bool), h_rs t k = some (t', n) → n = true ∧ f k = none) : h_R (z.nw q t f) := by
  intro b k t' n hr hk
  by_cases hb : b = q
  · subst hb
    rw [nw_te] at hr
    rw [nw_re]
    exact Or.inl (hf k t' n hr)
  · rw [nw_tn hb] at hr hk
    rw [nw_rn hb]
    rcases h b k t' n hr hk with h1 | ⟨c, h1, h2⟩
    · exact Or.inl h1
    · refine Or.inr ⟨c, h1, ?_⟩
      rw [nw_tn, h2]
      intro hc
      subst hc
      exact h_rs0 hr (h2.symm.trans h0)
/-- what stays -/
def h_X (M : List (Nat × Nat)) (MR : List Nat) (e : Option Nat) (z : tZ) (I : tI) (L : tL) (z1 : tZ) (I1 : tI) (L1 : tL) : Prop := ∀ b : Nat, z.ty b ≠ 0 → some b ≠ e → z1.ty b = z.ty b ∧ (MR.contains (z.ty b) = false → z1.R b = z.R b) ∧ (∀ k : Nat, h_m M (z.ty b) k = false → I1 b k = I b k) ∧ L1 b = L b
theorem h_X.rf {M : List (Nat × Nat)} {MR : List Nat} {e : Option Nat} {z : tZ} {I : tI} {L : tL} : h_X M MR e z I L z I L := fun _ _ _ => ⟨rfl, fun _ => rfl, fun _ _ => rfl, rfl⟩
theorem h_X.fresh {M : List (Nat × Nat)} {MR : List Nat} {e : Option Nat} {z z1 : tZ} {I I1 : tI} {L L1 : tL} (h : h_X M MR e z I L z1 I1 L1) {q : Nat} (h0 : z1.ty q = 0) (he : some q ≠ e) : z.ty q = 0 := Decidable.byContradiction fun hn => hn ((h q hn he).1.symm.trans h0)
theorem h_X.nw {M : List (Nat × Nat)} {MR : List Nat} {e : Option Nat} {z z1 : tZ} {I I1 : tI} {L L1 : tL} (h : h_X M MR e z I L z1 I1 L1) {q t : Nat} {f : Nat → Option Nat} (h0 : z1.ty q = 0) {L2 : tL} (hL : ∀ b, b ≠ q → L2 b = L1 b) : h_X M MR e z I L (z1.nw q t f) (h_row I1 q (fun _ => 0)) L2 := by
  intro b hb he
  obtain ⟨h1, h2, h3, h4⟩ := h b hb he
  have hq : b ≠ q := by
    intro hbq
    subst hbq
    exact hb (h1.symm.trans h0)
  rw [nw_tn hq, nw_rn hq, h_row_n hq, hL b hq]
  exact ⟨h1, h2, h3, h4⟩
theorem h_nwk {z : tZ} {q t b t' : Nat} {f : Nat → Option Nat} (h0 : z.ty q = 0) (hb : z.ty b = t') (ht : t' ≠ 0) : (z.nw q t f).ty b = t' := by
  rw [nw_tn, hb]
  intro h
  subst h
  exact ht (hb.symm.trans h0)
theorem h_nwr {z : tZ} {q t b t' k : Nat} {f : Nat → Option Nat} {v : Option Nat} (h0 : z.ty q = 0) (hb : z.ty b = t') (ht : t' ≠ 0) (hr : z.R b k = v) : (z.nw q t f).R b k = v := by
  rw [nw_rn, hr]
  intro h
  subst h
  exact ht (hb.symm.trans h0)
section HN
variable {p : Program} {l : Launch} {e : Env} {R : Room} {s : State} {m : MethodId} {args : Array Value} {below : List Frame} {meth : Method} {c : Code} {H : Heap} {locs : List Loc} {cells slots : Nat} {Q : State → Prop}
variable {cc : ByteArray} {pc : Nat} {ls : Array Slot} {rest : List Value} {A : Nat → Prop} {a : Nat} {H0 : Heap} {E : tE} {z : tZ} {I : tI} {L : tL}
theorem h_newI (hexec : p.tables.exec = Jvm.exec) (hb : c.code = cc) (harr : (Cond.arrayClass .int).before args s = true) (g : h_G h_so h_fk E A z I L s H0 H locs) (hA : ∀ q, H0.size ≤ q → A q) {t : Nat} {n : Int32} {N : Nat} (hso : h_so t = .inr (.int, N)) (hn : ¬ n < 0) (hN : n.toNatClampNeg = N) (hbytes : N * componentBytes .int ≤ 536870912) (hcells : cells + 1 ≤ R.cells) (hslots : slots + N ≤ R.slots) (hdg : decode cc pc = .ok (.newarray .int, 2))
    (kk : ∀ (q : Nat) (H : Heap), z.ty q = 0 → h_G h_so h_fk E A (z.nw q t (fun _ => none)) (h_row I q (fun _ => 0)) L s H0 H locs → W p l e R s m args below meth c H locs (cells + 1) (slots + N) Q (F0 m (pc + 2) ls (.ref q :: rest))) : W p l e R s m args below meth c H locs cells slots Q (F0 m pc ls (.int n :: rest)) := by
  obtain ⟨hK, hS, ws, hP, hD, hW⟩ := g
  refine va_newa (atype := .int) (ty := .int) (a0 := (N, .inl (fun _ => 0))) hexec hb harr rfl hK hP hD hS hA (xa_int N) hn hN hbytes hcells hslots hdg (fun q cA H1 hK1 hP1 hD1 hS1 => ?_)
  have ec : cA = E.ci := h_uni (hK1.2 6 (cA, .int) rfl).2 (hK1.2 0 (E.ci, .int) rfl).2
  subst ec
  obtain ⟨h0, hW1⟩ := hW.app (t := t) (f := fun _ => none) (I1 := h_row I q (fun _ => 0)) (L1 := L) hD1 (by unfold h_cell; rw [nw_te, hso, h_row_e]) (fun b hb => h_row_n hb) (fun _ _ => rfl)
  exact kk q H1 h0 ⟨hK, hS1, _, hP1, hD1, hW1⟩
theorem h_newZ (hexec : p.tables.exec = Jvm.exec) (hb : c.code = cc) (harr : (Cond.arrayClass .boolean).before args s = true) (g : h_G h_so h_fk E A z I L s H0 H locs) (hA : ∀ q, H0.size ≤ q → A q) {t : Nat} {n : Int32} {N : Nat} (hso : h_so t = .inr (.boolean, N)) (hn : ¬ n < 0) (hN : n.toNatClampNeg = N) (hbytes : N * componentBytes .boolean ≤ 536870912) (hcells : cells + 1 ≤ R.cells) (hslots : slots + N ≤ R.slots) (hdg : decode cc pc = .ok (.newarray .boolean, 2))
    (kk : ∀ (q : Nat) (H : Heap), z.ty q = 0 → h_G h_so h_fk E A (z.nw q t (fun _ => none)) (h_row I q (fun _ => 0)) L s H0 H locs → W p l e R s m args below meth c H locs (cells + 1) (slots + N) Q (F0 m (pc + 2) ls (.ref q :: rest))) : W p l e R s m args below meth c H locs cells slots Q (F0 m pc ls (.int n :: rest)) := by
  obtain ⟨hK, hS, ws, hP, hD, hW⟩ := g
  refine va_newa (atype := .boolean) (ty := .boolean) (a0 := (N, .inl (fun _ => 0))) hexec hb harr rfl hK hP hD hS hA (xa_boolean N) hn hN hbytes hcells hslots hdg (fun q cA H1 hK1 hP1 hD1 hS1 => ?_)
  have ec : cA = E.cz := h_uni (hK1.2 6 (cA, .boolean) rfl).2 (hK1.2 1 (E.cz, .boolean) rfl).2
  subst ec
  obtain ⟨h0, hW1⟩ := hW.app (t := t) (f := fun _ => none) (I1 := h_row I q (fun _ => 0)) (L1 := L) hD1 (by unfold h_cell; rw [nw_te, hso, h_row_e]) (fun b hb => h_row_n hb) (fun _ _ => rfl)
  exact kk q H1 h0 ⟨hK, hS1, _, hP1, hD1, hW1⟩
theorem h_newB (hexec : p.tables.exec = Jvm.exec) (hb : c.code = cc) (harr : (Cond.arrayClass .byte).before args s = true) (g : h_G h_so h_fk E A z I L s H0 H locs) (hA : ∀ q, H0.size ≤ q → A q) {t : Nat} {n : Int32} {N : Nat} (hso : h_so t = .inr (.byte, N)) (hn : ¬ n < 0) (hN : n.toNatClampNeg = N) (hbytes : N * componentBytes .byte ≤ 536870912) (hcells : cells + 1 ≤ R.cells) (hslots : slots + N ≤ R.slots) (hdg : decode cc pc = .ok (.newarray .byte, 2))
    (kk : ∀ (q : Nat) (H : Heap), z.ty q = 0 → h_G h_so h_fk E A (z.nw q t (fun _ => none)) (h_row I q (fun _ => 0)) L s H0 H locs → W p l e R s m args below meth c H locs (cells + 1) (slots + N) Q (F0 m (pc + 2) ls (.ref q :: rest))) : W p l e R s m args below meth c H locs cells slots Q (F0 m pc ls (.int n :: rest)) := by
  obtain ⟨hK, hS, ws, hP, hD, hW⟩ := g
  refine va_newa (atype := .byte) (ty := .byte) (a0 := (N, .inl (fun _ => 0))) hexec hb harr rfl hK hP hD hS hA (xa_byte N) hn hN hbytes hcells hslots hdg (fun q cA H1 hK1 hP1 hD1 hS1 => ?_)
  have ec : cA = E.cb := h_uni (hK1.2 6 (cA, .byte) rfl).2 (hK1.2 2 (E.cb, .byte) rfl).2
  subst ec
  obtain ⟨h0, hW1⟩ := hW.app (t := t) (f := fun _ => none) (I1 := h_row I q (fun _ => 0)) (L1 := L) hD1 (by unfold h_cell; rw [nw_te, hso, h_row_e]) (fun b hb => h_row_n hb) (fun _ _ => rfl)
  exact kk q H1 h0 ⟨hK, hS1, _, hP1, hD1, hW1⟩
theorem h_newaL (hexec : p.tables.exec = Jvm.exec) (hb : c.code = cc) {own : String} {index : Nat} (hown : s.vm.findClass own = some m.cls) (hclink : (Cond.classLink own index RX5).before args s = true) (hover : va_AO RX5 s) (g : h_G h_so h_fk E A z I L s H0 H locs) (hA : ∀ q, H0.size ≤ q → A q) {t : Nat} {n : Int32} {N : Nat} (hso : h_so t = .inr (.float, N)) (hn : ¬ n < 0) (hN : n.toNatClampNeg = N) (hbytes : N * 4 ≤ 536870912) (hcells : cells + 1 ≤ R.cells) (hslots : slots + N ≤ R.slots) (hdg : decode cc pc = .ok (.anewarray index, 3))
    (kk : ∀ (q : Nat) (H : Heap), z.ty q = 0 → h_G h_so h_fk E A (z.nw q t (fun _ => none)) (h_row I q (fun _ => 0)) L s H0 H locs → W p l e R s m args below meth c H locs (cells + 1) (slots + N) Q (F0 m (pc + 3) ls (.ref q :: rest))) : W p l e R s m args below meth c H locs cells slots Q (F0 m pc ls (.int n :: rest)) := by
  obtain ⟨hK, hS, ws, hP, hD, hW⟩ := g
  refine va_newq (C := RX5) (N' := N) hexec hb hown hclink hover hK hP hD hS hA hn hN hbytes hcells hslots hdg (fun q cA H1 hK1 hP1 hD1 hS1 => ?_)
  have ec : cA = E.cL := h_uni (hK1.2 6 (cA, .object RX5) rfl).2 (hK1.2 3 (E.cL, .object RX5) rfl).2
  subst ec
  obtain ⟨h0, hW1⟩ := hW.app (t := t) (f := fun _ => none) (I1 := h_row I q (fun _ => 0)) (L1 := L) hD1 (by unfold h_cell; rw [nw_te, hso, nw_re]) (fun b hb => h_row_n hb) (fun _ _ => rfl)
  exact kk q H1 h0 ⟨hK, hS1, _, hP1, hD1, hW1⟩
theorem h_newaP (hexec : p.tables.exec = Jvm.exec) (hb : c.code = cc) {own : String} {index : Nat} (hown : s.vm.findClass own = some m.cls) (hclink : (Cond.classLink own index RX6).before args s = true) (hover : va_AO RX6 s) (g : h_G h_so h_fk E A z I L s H0 H locs) (hA : ∀ q, H0.size ≤ q → A q) {t : Nat} {n : Int32} {N : Nat} (hso : h_so t = .inr (.double, N)) (hn : ¬ n < 0) (hN : n.toNatClampNeg = N) (hbytes : N * 4 ≤ 536870912) (hcells : cells + 1 ≤ R.cells) (hslots : slots + N ≤ R.slots) (hdg : decode cc pc = .ok (.anewarray index, 3))
    (kk : ∀ (q : Nat) (H : Heap), z.ty q = 0 → h_G h_so h_fk E A (z.nw q t (fun _ => none)) (h_row I q (fun _ => 0)) L s H0 H locs → W p l e R s m args below meth c H locs (cells + 1) (slots + N) Q (F0 m (pc + 3) ls (.ref q :: rest))) : W p l e R s m args below meth c H locs cells slots Q (F0 m pc ls (.int n :: rest)) := by
  obtain ⟨hK, hS, ws, hP, hD, hW⟩ := g
  refine va_newq (C := RX6) (N' := N) hexec hb hown hclink hover hK hP hD hS hA hn hN hbytes hcells hslots hdg (fun q cA H1 hK1 hP1 hD1 hS1 => ?_)
  have ec : cA = E.cP := h_uni (hK1.2 6 (cA, .object RX6) rfl).2 (hK1.2 4 (E.cP, .object RX6) rfl).2
  subst ec
  obtain ⟨h0, hW1⟩ := hW.app (t := t) (f := fun _ => none) (I1 := h_row I q (fun _ => 0)) (L1 := L) hD1 (by unfold h_cell; rw [nw_te, hso, nw_re]) (fun b hb => h_row_n hb) (fun _ _ => rfl)
  exact kk q H1 h0 ⟨hK, hS1, _, hP1, hD1, hW1⟩
def h_df (k : tK) : Value := match k with
  | .lt => .int 0
  | .eq => .null
  | .gt => .long 0
theorem h_newO (hexec : p.tables.exec = Jvm.exec) (hb : c.code = cc) {own C : String} {T : u_T} {N ci index : Nat} {Ts : List Cond} (hts : ∀ w ∈ Ts, w.before args s = true) (hin : ∀ w ∈ u_ws C T N, w ∈ Ts) (ty : Nat → FieldType) (hty : ∀ k, k < N → parseFieldDescriptor (T k).2.2.1 = some (ty k)) (hown : s.vm.findClass own = some m.cls) (hcl : (Cond.classLink own index C).before args s = true) (hinst : (Cond.instantiable C N).before args s = true) (hini : (Cond.initialized C).before args s = true) (g : h_G h_so h_fk E A z I L s H0 H locs) (hA : ∀ q, H0.size ≤ q → A q) (hc : vwCl[ci]? = some (C, T, N)) {t : Nat} (hso : h_so t = .inl (ci, N)) (hfs : ∀ j, j < N → defaultValue (ty j) = h_df (h_fk ci j)) (hcells : cells + 1 ≤ R.cells) (hslots : slots + N ≤ R.slots) (hdg : decode cc pc = .ok (.new index, 3))
    (kk : ∀ (q : Nat) (H : Heap), z.ty q = 0 → h_G h_so h_fk E A (z.nw q t (fun _ => none)) (h_row I q (fun _ => 0)) (h_rL L q (fun _ => 0)) s H0 H locs → W p l e R s m args below meth c H locs (cells + 1) (slots + N) Q (F0 m (pc + 3) ls (.ref q :: rest))) : W p l e R s m args below meth c H locs cells slots Q (F0 m pc ls rest) := by
  obtain ⟨hK, hS, ws, hP, hD, hW⟩ := g
  refine va_new (ci := ci) (fs := (List.range N).map (fun k => h_df (h_fk ci k))) hexec hb hts hin ty hty hown hcl hinst hini hK hP hD hS hA hc (fun j hj => ?_) hcells hslots hdg (fun q H1 hP1 hD1 hS1 => ?_)
  · rw [hfs j hj]
    simp [vp_V, hj]
  · obtain ⟨h0, hW1⟩ := hW.app (t := t) (f := fun _ => none) (I1 := h_row I q (fun _ => 0)) (L1 := h_rL L q (fun _ => 0)) hD1 (by
      unfold h_cell
      rw [nw_te, hso]
      have : h_fv (h_fk ci) (z.nw q t (fun _ => none)) (h_row I q (fun _ => 0)) (h_rL L q (fun _ => 0)) q = fun k => h_df (h_fk ci k) := by
        funext k
        unfold h_fv h_df
        rw [h_row_e, nw_re, h_rL_e]
        cases h_fk ci k <;> rfl
      simp only [this]) (fun b hb => h_row_n hb) (fun b hb => h_rL_n hb)
    exact kk q H1 h0 ⟨hK, hS1, _, hP1, hD1, hW1⟩
theorem h_putR (hexec : p.tables.exec = Jvm.exec) (hb : c.code = cc) {own C : String} {T : u_T} {N ci index : Nat} {Ts : List Cond} (hts : ∀ w ∈ Ts, w.before args s = true) (hin : ∀ w ∈ u_ws C T N, w ∈ Ts) (ty0 : Nat → FieldType) (hty : ∀ k, k < N → parseFieldDescriptor (T k).2.2.1 = some (ty0 k)) (hnm : ∀ a, a < N → ∀ b, b < N → a ≠ b → (T a).2.1 ≠ (T b).2.1) (hown : s.vm.findClass own = some m.cls) (g : h_G h_so h_fk E A z I L s H0 H locs) {t : Nat} (ha : z.ty a = t) (h0 : t ≠ 0) (hso : h_so t = .inl (ci, N)) (hc : vwCl[ci]? = some (C, T, N)) (k : Nat) (hk : k < N) (hf : h_fk ci k = .eq) (hlink : (Cond.fieldLink own index C (T k).2.1 (T k).2.2.1).before args s = true) (hT : (T k).1 = C) (hfin : (T k).2.2.2 = true) (hin2 : meth.name = "<init>") (hdecl : (T k).1 = own) {ty : FieldType} {v : Nat} (hd : parseFieldDescriptor (T k).2.2.1 = some ty) (hn : narrow ty (.ref v) = .ref v) (hfit : fits ty (.ref v) = true) (hdg : decode cc pc = .ok (.putfield index, 3))
    (kk : ∀ (H : Heap) (locs : List Loc), h_G h_so h_fk E A (z.wR a k (some v)) I L s H0 H locs → W p l e R s m args below meth c H locs cells slots Q (F0 m (pc + 3) ls rest)) : W p l e R s m args below meth c H locs cells slots Q (F0 m pc ls (.ref v :: .ref a :: rest)) := by
  obtain ⟨hK, hS, ws, hP, hD, hW⟩ := g
  obtain ⟨q0, hq⟩ := hW.at (a := a) (by rw [ha]; exact h0) (e := .inr (ci, (List.range N).map (h_fv (h_fk ci) z I L a))) (by unfold h_cell; rw [ha, hso])
  refine va_putF hexec hb hts hin ty0 hty hnm hown hK hP hD hS q0 hq hc k hk hlink (fun _ h9 => by rw [hT] at h9; exact h9) hfin hin2 hdecl hd hn hfit (by simpa using hk) hdg (fun H1 locs1 hP1 hD1 hS1 => ?_)
  refine kk H1 locs1 ⟨hK, hS1, _, hP1, hD1, hW.set (z1 := z.wR a k (some v)) (I1 := I) (L1 := L) hD hq rfl (fun b hb => h_cell_pt rfl rfl (h_up_ne hb) rfl) ?_⟩
  unfold h_cell
  rw [show (z.wR a k (some v)).ty a = t from ha, hso]
  simp only
  rw [h_map_set (f := h_fv (h_fk ci) z I L a) (k := k) (v := .ref v)]
  · show h_fv (h_fk ci) (z.wR a k (some v)) I L a k = .ref v
    unfold h_fv
    rw [hf]
    show va_rf (h_up z.R a k (some v) a k) = .ref v
    rw [h_up_eq]
    rfl
  · intro j hj
    unfold h_fv
    rw [show (z.wR a k (some v)).R a j = z.R a j from h_up_at hj]
theorem h_astL (hexec : p.tables.exec = Jvm.exec) (hb : c.code = cc) (g : h_G h_so h_fk E A z I L s H0 H locs) {t n : Nat} (ha : z.ty a = t) (h0 : t ≠ 0) (hso : h_so t = .inr (.float, n)) {v t2 N : Nat} (hv : z.ty v = t2) (h2 : t2 ≠ 0) (hso2 : h_so t2 = .inl (5, N)) {i : Int32} (hin : vp_in i n) (hdg : decode cc pc = .ok (.aastore, 1))
    (kk : ∀ (H : Heap) (locs : List Loc), h_G h_so h_fk E A (z.wR a i.toNatClampNeg (some v)) I L s H0 H locs → W p l e R s m args below meth c H locs cells slots Q (F0 m (pc + 1) ls rest)) : W p l e R s m args below meth c H locs cells slots Q (F0 m pc ls (.ref v :: .int i :: .ref a :: rest)) := by
  obtain ⟨hK, hS, ws, hP, hD, hW⟩ := g
  obtain ⟨q0, hq⟩ := hW.at (a := a) (by rw [ha]; exact h0) (e := .inl (E.cL, n, .inr (.inr (.inr (.inr (z.R a)))))) (by unfold h_cell; rw [ha, hso])
  obtain ⟨qk, hqk⟩ := hW.at (a := v) (by rw [hv]; exact h2) (e := .inr (5, (List.range N).map (h_fv (h_fk 5) z I L v))) (by unfold h_cell; rw [hv, hso2])
  refine va_astq (r := (RX5, TX5, 3)) hexec hb hK hP hD hS q0 3 qk 5 hq rfl hqk rfl hin hdg (fun H1 locs1 hP1 hD1 hS1 => ?_)
  refine kk H1 locs1 ⟨hK, hS1, _, hP1, hD1, hW.set (z1 := z.wR a i.toNatClampNeg (some v)) (I1 := I) (L1 := L) hD hq rfl (fun b hb => h_cell_pt rfl rfl (h_up_ne hb) rfl) ?_⟩
  unfold h_cell
  rw [show (z.wR a i.toNatClampNeg (some v)).ty a = t from ha, hso]
  simp only
  congr 7
  funext j
  show h_up z.R a i.toNatClampNeg (some v) a j = _
  simp [h_up, va_up]
theorem h_astP (hexec : p.tables.exec = Jvm.exec) (hb : c.code = cc) (g : h_G h_so h_fk E A z I L s H0 H locs) {t n : Nat} (ha : z.ty a = t) (h0 : t ≠ 0) (hso : h_so t = .inr (.double, n)) {v t2 N : Nat} (hv : z.ty v = t2) (h2 : t2 ≠ 0) (hso2 : h_so t2 = .inl (6, N)) {i : Int32} (hin : vp_in i n) (hdg : decode cc pc = .ok (.aastore, 1))
    (kk : ∀ (H : Heap) (locs : List Loc), h_G h_so h_fk E A (z.wR a i.toNatClampNeg (some v)) I L s H0 H locs → W p l e R s m args below meth c H locs cells slots Q (F0 m (pc + 1) ls rest)) : W p l e R s m args below meth c H locs cells slots Q (F0 m pc ls (.ref v :: .int i :: .ref a :: rest)) := by
  obtain ⟨hK, hS, ws, hP, hD, hW⟩ := g
  obtain ⟨q0, hq⟩ := hW.at (a := a) (by rw [ha]; exact h0) (e := .inl (E.cP, n, .inr (.inr (.inr (.inr (z.R a)))))) (by unfold h_cell; rw [ha, hso])
  obtain ⟨qk, hqk⟩ := hW.at (a := v) (by rw [hv]; exact h2) (e := .inr (6, (List.range N).map (h_fv (h_fk 6) z I L v))) (by unfold h_cell; rw [hv, hso2])
  refine va_astq (r := (RX6, TX6, 9)) hexec hb hK hP hD hS q0 4 qk 6 hq rfl hqk rfl hin hdg (fun H1 locs1 hP1 hD1 hS1 => ?_)
  refine kk H1 locs1 ⟨hK, hS1, _, hP1, hD1, hW.set (z1 := z.wR a i.toNatClampNeg (some v)) (I1 := I) (L1 := L) hD hq rfl (fun b hb => h_cell_pt rfl rfl (h_up_ne hb) rfl) ?_⟩
  unfold h_cell
  rw [show (z.wR a i.toNatClampNeg (some v)).ty a = t from ha, hso]
  simp only
  congr 7
  funext j
  show h_up z.R a i.toNatClampNeg (some v) a j = _
  simp [h_up, va_up]
end HN
/-- a cell's kind is told anew -/
def tZ.rt (z : tZ) (a t : Nat) : tZ := (fun b => if b = a then t else z.ty b, z.R)
theorem rt_e {z : tZ} {a t : Nat} : (z.rt a t).ty a = t := if_pos rfl
theorem rt_n {z : tZ} {a b t : Nat} (h : b ≠ a) : (z.rt a t).ty b = z.ty b := if_neg h
theorem h_G.rt {E : tE} {A : Nat → Prop} {z : tZ} {I : tI} {L : tL} {s : State} {H0 H : Heap} {locs : List Loc} (g : h_G h_so h_fk E A z I L s H0 H locs) {a t : Nat} (h0 : z.ty a ≠ 0) (hs : h_so t = h_so (z.ty a)) : h_G h_so h_fk E A (z.rt a t) I L s H0 H locs := by
  obtain ⟨hK, hS, ws, hP, hD, hW⟩ := g
  refine ⟨hK, hS, ws, hP, hD, fun b hb => ?_⟩
  by_cases hba : b = a
  · subst hba
    obtain ⟨k, hk⟩ := hW b h0
    refine ⟨k, ?_⟩
    rw [hk]
    congr 2
    unfold h_cell
    rw [rt_e, hs]
    rfl
  · rw [rt_n hba] at hb
    obtain ⟨k, hk⟩ := hW b hb
    exact ⟨k, by rw [hk, h_cell_pt (z := z) (z1 := z.rt a t) (rt_n hba) rfl rfl rfl]⟩
theorem h_I.rt {z : tZ} {I : tI} (h : h_I z I) {a t : Nat} (hb : ∀ k : Nat, (h_bd t k).1 ≤ (I a k).toInt ∧ (I a k).toInt ≤ (h_bd t k).2) : h_I (z.rt a t) I := by
  intro b k
  by_cases hba : b = a
  · subst hba
    rw [rt_e]
    exact hb k
  · rw [rt_n hba]
    exact h b k
/-- nothing points at a cell under construction -/
theorem h_rl50 : ∀ q ∈ h_rl, q.2.2.1 < 50 ∨ 100 ≤ q.2.2.1 := by decide +kernel
theorem h_rs50 {t k t' : Nat} {n : Bool} (h : h_rs t k = some (t', n)) : t' < 50 ∨ 100 ≤ t' := by
  unfold h_rs at h
  split at h
  · rename_i q hq
    have := h_rl50 q (List.mem_of_find?_eq_some hq)
    rw [Option.some.inj h] at this
    exact this
  · cases h
theorem h_R.rt {z : tZ} (h : h_R z) {a t r : Nat} (ha : z.ty a = r) (h50 : 50 ≤ r) (h100 : r < 100) (hr : ∀ (k t' : Nat) (n : Bool), h_rs t k = some (t', n) → k < h_len (h_so t) → ∃ b, z.R a k = some b ∧ z.ty b = t') : h_R (z.rt a t) := by
  have key : ∀ (c t' : Nat), (t' < 50 ∨ 100 ≤ t') → z.ty c = t' → (z.rt a t).ty c = t' := by
    intro c t' h1 h2
    rw [rt_n, h2]
    intro hc
    subst hc
    omega
  intro b k t' n h1 h2
  by_cases hba : b = a
  · subst hba
    rw [rt_e] at h1 h2
    obtain ⟨c, h3, h4⟩ := hr k t' n h1 h2
    exact Or.inr ⟨c, h3, key c t' (h_rs50 h1) h4⟩
  · rw [rt_n hba] at h1 h2
    rcases h b k t' n h1 h2 with h3 | ⟨c, h3, h4⟩
    · exact Or.inl h3
    · exact Or.inr ⟨c, h3, key c t' (h_rs50 h1) h4⟩
theorem h_R.wR {z : tZ} (h : h_R z) {a r k0 : Nat} {v : Option Nat} (ha : z.ty a = r) (hn : ∀ k : Nat, h_rs r k = none) : h_R (z.wR a k0 v) := by
  intro b k t' n h1 h2
  by_cases hba : b = a
  · subst hba
    rw [show (z.wR b k0 v).ty b = r from ha, hn] at h1
    cases h1
  · rw [show (z.wR a k0 v).R b = z.R b from h_up_ne hba]
    exact h b k t' n h1 h2
theorem h_R.ast {z : tZ} (h : h_R z) {a v t i : Nat} (ha : z.ty a = t) (t2 : Nat) (hn : ∀ (k t' : Nat) (n : Bool), h_rs t k = some (t', n) → t' = t2) (hv : z.ty v = t2) : h_R (z.wR a i (some v)) := by
  intro b k t' n h1 h2
  by_cases hba : b = a
  · subst hba
    by_cases hk : k = i
    · subst hk
      refine Or.inr ⟨v, h_up_eq, ?_⟩
      rw [show (z.wR b k (some v)).ty b = t from ha] at h1
      rw [hn k t' n h1]
      exact hv
    · rw [show (z.wR b i (some v)).R b k = z.R b k from h_up_at hk]
      exact h b k t' n h1 h2
  · rw [show (z.wR a i (some v)).R b = z.R b from h_up_ne hba]
    exact h b k t' n h1 h2
theorem h_X.wR {M : List (Nat × Nat)} {MR : List Nat} {e : Option Nat} {z z1 : tZ} {I I1 : tI} {L L1 : tL} (h : h_X M MR e z I L z1 I1 L1) {a k : Nat} {v : Option Nat} (ha : some a = e ∨ z.ty a = 0 ∨ MR.contains (z1.ty a) = true) : h_X M MR e z I L (z1.wR a k v) I1 L1 := by
  intro b hb he
  obtain ⟨h1, h2, h3, h4⟩ := h b hb he
  refine ⟨h1, fun hm => ?_, h3, h4⟩
  rw [show (z1.wR a k v).R b = z1.R b from h_up_ne (fun hba => by
    subst hba
    rcases ha with q | q | q
    · exact he q
    · exact hb q
    · rw [h1, hm] at q
      cases q)]
  exact h2 hm
theorem h_X.wL {M : List (Nat × Nat)} {MR : List Nat} {e : Option Nat} {z z1 : tZ} {I I1 : tI} {L L1 L2 : tL} (h : h_X M MR e z I L z1 I1 L1) {a k : Nat} {v : Int64} (e2 : L2 = h_up L1 a k v) (ha : some a = e ∨ z.ty a = 0) : h_X M MR e z I L z1 I1 L2 := by
  intro b hb he
  obtain ⟨h1, h2, h3, h4⟩ := h b hb he
  refine ⟨h1, h2, h3, ?_⟩
  rw [e2, h_up_ne, h4]
  intro hba
  subst hba
  rcases ha with q | q
  · exact he q
  · exact hb q
theorem h_X.rt {M : List (Nat × Nat)} {MR : List Nat} {e : Option Nat} {z z1 : tZ} {I I1 : tI} {L L1 : tL} (h : h_X M MR e z I L z1 I1 L1) {a t : Nat} (ha : some a = e ∨ z.ty a = 0) : h_X M MR e z I L (z1.rt a t) I1 L1 := by
  intro b hb he
  obtain ⟨h1, h2, h3, h4⟩ := h b hb he
  refine ⟨?_, h2, h3, h4⟩
  rw [rt_n, h1]
  intro hba
  subst hba
  rcases ha with q | q
  · exact he q
  · exact hb q
/-- a call that makes cells, seen from outside -/
theorem h_X.call {M M2 : List (Nat × Nat)} {MR MR2 : List Nat} {e e2 : Option Nat} {z z1 z2 : tZ} {I I1 I2 : tI} {L L1 L2 : tL} (h : h_X M MR e z I L z1 I1 L1) (h2 : h_X M2 MR2 e2 z1 I1 L1 z2 I2 L2) (hM : M2.all (fun q => M.contains q) = true) (hR : ∀ t, MR.contains t = false → MR2.contains t = false) (he : ∀ b, some b = e2 → some b = e ∨ z.ty b = 0) : h_X M MR e z I L z2 I2 L2 := by
  intro b hb hbe
  obtain ⟨a1, a2, a3, a4⟩ := h b hb hbe
  obtain ⟨b1, b2, b3, b4⟩ := h2 b (by rw [a1]; exact hb) (fun q => by
    rcases he b q with q | q
    · exact hbe q
    · exact hb q)
  refine ⟨b1.trans a1, fun hm => ?_, fun k hm => ?_, b4.trans a4⟩
  · exact (b2 (by rw [a1]; exact hR _ hm)).trans (a2 hm)
  · exact (b3 k (by rw [a1]; exact h_m_sub hM hm)).trans (a3 k hm)
theorem h_X.tcall {M M2 : List (Nat × Nat)} {MR : List Nat} {e : Option Nat} {z z1 : tZ} {I I1 I2 : tI} {L L1 : tL} (h : h_X M MR e z I L z1 I1 L1) (h2 : h_F M2 z1 I1 I2) (hM : M2.all (fun q => M.contains q) = true) : h_X M MR e z I L z1 I2 L1 := by
  intro b hb hbe
  obtain ⟨a1, a2, a3, a4⟩ := h b hb hbe
  exact ⟨a1, a2, fun k hm => (h2 b k (by rw [a1]; exact h_m_sub hM hm)).trans (a3 k hm), a4⟩
theorem h_X.ty {M : List (Nat × Nat)} {MR : List Nat} {e : Option Nat} {z z1 : tZ} {I I1 : tI} {L L1 : tL} (h : h_X M MR e z I L z1 I1 L1) {b t : Nat} (hb : z.ty b = t) (ht : t ≠ 0) (he : some b ≠ e) : z1.ty b = t := ((h b (by rw [hb]; exact ht) he).1).trans hb
theorem h_X.R {M : List (Nat × Nat)} {MR : List Nat} {e : Option Nat} {z z1 : tZ} {I I1 : tI} {L L1 : tL} (h : h_X M MR e z I L z1 I1 L1) {b t k : Nat} {v : Option Nat} (hb : z.ty b = t) (ht : t ≠ 0) (he : some b ≠ e) (hm : MR.contains t = false) (hv : z.R b k = v) : z1.R b k = v := by rw [(h b (by rw [hb]; exact ht) he).2.1 (by rw [hb]; exact hm), hv]
theorem h_X.I {M : List (Nat × Nat)} {MR : List Nat} {e : Option Nat} {z z1 : tZ} {I I1 : tI} {L L1 : tL} (h : h_X M MR e z I L z1 I1 L1) {b t k : Nat} (hb : z.ty b = t) (ht : t ≠ 0) (he : some b ≠ e) (hm : h_m M t k = false) : I1 b k = I b k := (h b (by rw [hb]; exact ht) he).2.2.1 k (by rw [hb]; exact hm)

