/-! the heap as a function: every cell of a known kind has its contents in one table of numbers, one of addresses, one of longs -/
abbrev tK : Type := Ordering
abbrev tO : Type := (Nat × Nat) ⊕ (FieldType × Nat)
def tZ : Type := (Nat → Nat) × (Nat → Nat → Option Nat)
def tZ.ty (z : tZ) : Nat → Nat := z.1
def tZ.R (z : tZ) : Nat → Nat → Option Nat := z.2
def tE : Type := va_G × ClassId × ClassId × ClassId × ClassId × ClassId × ClassId
def tE.D (x : tE) : va_G := x.1
def tE.ci (x : tE) : ClassId := x.2.1
def tE.cz (x : tE) : ClassId := x.2.2.1
def tE.cb (x : tE) : ClassId := x.2.2.2.1
def tE.cL (x : tE) : ClassId := x.2.2.2.2.1
def tE.cP (x : tE) : ClassId := x.2.2.2.2.2.1
def tE.cA (x : tE) : ClassId := x.2.2.2.2.2.2
def h_up {α : Type} (f : Nat → Nat → α) (a k : Nat) (v : α) : Nat → Nat → α := fun b j => if b = a then (if j = k then v else f b j) else f b j
def tZ.wR (z : tZ) (a k : Nat) (v : Option Nat) : tZ := (z.ty, h_up z.R a k v)
abbrev tI : Type := Nat → Nat → Int32
abbrev tL : Type := Nat → Nat → Int64
def h_tys (E : tE) : List (ClassId × FieldType) := [(E.ci, .int), (E.cz, .boolean), (E.cb, .byte), (E.cL, .object RX5), (E.cP, .object RX6), (E.cA, .array .int)]
def h_fv (fk : Nat → tK) (z : tZ) (I : tI) (L : tL) (a k : Nat) : Value := match fk k with
  | .lt => .int (I a k)
  | .eq => va_rf (z.R a k)
  | .gt => .long (L a k)
section HB
variable (so : Nat → tO) (fk : Nat → Nat → tK)
def h_cell (E : tE) (z : tZ) (I : tI) (L : tL) (a : Nat) : va_E := match so (z.ty a) with
  | .inl (ci, n) => .inr (ci, (List.range n).map (h_fv (fk ci) z I L a))
  | .inr (.int, n) => .inl (E.ci, n, .inl (I a))
  | .inr (.boolean, n) => .inl (E.cz, n, .inl (I a))
  | .inr (.byte, n) => .inl (E.cb, n, .inl (I a))
  | .inr (.float, n) => .inl (E.cL, n, .inr (.inr (.inr (.inr (z.R a)))))
  | .inr (.double, n) => .inl (E.cP, n, .inr (.inr (.inr (.inr (z.R a)))))
  | .inr (.long, n) => .inl (E.cA, n, .inr (.inr (.inr (.inr (z.R a)))))
  | .inr (_, _) => .inr (0, [])
def h_W (E : tE) (z : tZ) (I : tI) (L : tL) (ws : va_W) : Prop := ∀ a : Nat, z.ty a ≠ 0 → ∃ k : Nat, ws[k]? = some (a, h_cell so fk E z I L a)
def h_G (E : tE) (A : Nat → Prop) (z : tZ) (I : tI) (L : tL) (s : State) (H0 H : Heap) (locs : List Loc) : Prop := va_K E.D vwCl (h_tys E) s ∧ va_S A H0 H locs ∧ ∃ ws : va_W, va_P E.D vwCl ws H ∧ va_D A ws ∧ h_W so fk E z I L ws
end HB
theorem h_W.at {so : Nat → tO} {fk : Nat → Nat → tK} {E : tE} {z : tZ} {I : tI} {L : tL} {ws : va_W} (h : h_W so fk E z I L ws) {a : Nat} (ha : z.ty a ≠ 0) {e : va_E} (he : h_cell so fk E z I L a = e) : ∃ k : Nat, ws[k]? = some (a, e) := by
  obtain ⟨k, hk⟩ := h a ha
  exact ⟨k, by rw [hk, he]⟩
/-- a cell is written anew: the table changes at this address alone -/
theorem h_W.set {so : Nat → tO} {fk : Nat → Nat → tK} {E : tE} {z z1 : tZ} {I I1 : tI} {L L1 : tL} {ws : va_W} {A : Nat → Prop} (h : h_W so fk E z I L ws) (hD : va_D A ws) {a q0 : Nat} {e0 : va_E} (hq : ws[q0]? = some (a, e0)) (hty : z1.ty = z.ty) (ho : ∀ b, b ≠ a → h_cell so fk E z1 I1 L1 b = h_cell so fk E z I L b) {e : va_E} (he : h_cell so fk E z1 I1 L1 a = e) : h_W so fk E z1 I1 L1 (ws.set q0 (a, e)) := by
  intro b hb
  rw [hty] at hb
  by_cases hba : b = a
  · subst hba
    refine ⟨q0, ?_⟩
    rw [he]
    exact List.getElem?_set_self (List.getElem?_eq_some_iff.mp hq).1
  · obtain ⟨k, hk⟩ := h b hb
    refine ⟨k, ?_⟩
    have hne : q0 ≠ k := by
      intro e1
      subst e1
      rw [hq] at hk
      exact hba (by cases hk; rfl)
    rw [List.getElem?_set_ne hne, hk, ho b hba]
theorem h_up_ne {α : Type} {f : Nat → Nat → α} {a k b : Nat} {v : α} (h : b ≠ a) : h_up f a k v b = f b := by
  funext j
  simp [h_up, h]
theorem h_up_at {α : Type} {f : Nat → Nat → α} {a k j : Nat} {v : α} (h : j ≠ k) : h_up f a k v a j = f a j := by simp [h_up, h]
theorem h_up_eq {α : Type} {f : Nat → Nat → α} {a k : Nat} {v : α} : h_up f a k v a k = v := by simp [h_up]
theorem h_fv_ne {fk : Nat → tK} {z z1 : tZ} {I I1 : tI} {L L1 : tL} {b : Nat} (h1 : I1 b = I b) (h2 : z1.R b = z.R b) (h3 : L1 b = L b) : h_fv fk z1 I1 L1 b = h_fv fk z I L b := by
  funext j
  simp [h_fv, h1, h2, h3]
theorem h_cell_ne {so : Nat → tO} {fk : Nat → Nat → tK} {E : tE} {z z1 : tZ} {I I1 : tI} {L L1 : tL} {b : Nat} (hty : z1.ty = z.ty) (h1 : I1 b = I b) (h2 : z1.R b = z.R b) (h3 : L1 b = L b) : h_cell so fk E z1 I1 L1 b = h_cell so fk E z I L b := by
  unfold h_cell
  rw [hty, h1, h2]
  rcases so (z.ty b) with ⟨ci, n⟩ | ⟨q, n⟩
  · simp only [h_fv_ne (fk := fk ci) h1 h2 h3]
  · cases q <;> rfl
theorem h_map_set {f g : Nat → Value} {n k : Nat} {v : Value} (hk : g k = v) (ho : ∀ j, j ≠ k → g j = f j) : (List.range n).map g = ((List.range n).map f).set k v := by
  apply List.ext_getElem?
  intro j
  by_cases hj : j = k
  · subst hj
    by_cases hn : j < n
    · rw [List.getElem?_set_self (by simpa using hn)]
      simp [hn, hk]
    · rw [List.getElem?_eq_none (by simpa using hn), List.getElem?_eq_none (by simpa using hn)]
  · rw [List.getElem?_set_ne (fun e => hj e.symm)]
    simp only [List.getElem?_map]
    by_cases hn : j < n
    · simp [hn, ho j hj]
    · rw [List.getElem?_eq_none (by simpa using hn)]; rfl
section HL
variable {p : Program} {l : Launch} {e : Env} {R : Room} {s : State} {m : MethodId} {args : Array Value} {below : List Frame} {meth : Method} {c : Code} {H : Heap} {locs : List Loc} {cells slots : Nat} {Q : State → Prop}
variable {cc : ByteArray} {pc : Nat} {ls : Array Slot} {rest : List Value} {A : Nat → Prop} {a : Nat} {H0 : Heap} {so : Nat → tO} {fk : Nat → Nat → tK} {E : tE} {z : tZ} {I : tI} {L : tL}
theorem h_get (hexec : p.tables.exec = Jvm.exec) (hb : c.code = cc) {own C : String} {T : u_T} {N ci index : Nat} {Ts : List Cond} (hts : ∀ w ∈ Ts, w.before args s = true) (hin : ∀ w ∈ u_ws C T N, w ∈ Ts) (hown : s.vm.findClass own = some m.cls) (g : h_G so fk E A z I L s H0 H locs) {t : Nat} (ha : z.ty a = t) (h0 : t ≠ 0) (hso : so t = .inl (ci, N)) (hc : vwCl[ci]? = some (C, T, N)) (k : Nat) (hk : k < N) (hlink : (Cond.fieldLink own index C (T k).2.1 (T k).2.2.1).before args s = true) (hT : (T k).1 = C) (hdg : decode cc pc = .ok (.getfield index, 3)) {v : Value} (hv : h_fv (fk ci) z I L a k = v)
    (kk : W p l e R s m args below meth c H locs cells slots Q (F0 m (pc + 3) ls (v :: rest))) : W p l e R s m args below meth c H locs cells slots Q (F0 m pc ls (.ref a :: rest)) := by
  obtain ⟨hK, hS, ws, hP, hD, hW⟩ := g
  obtain ⟨q0, hq⟩ := hW.at (a := a) (by rw [ha]; exact h0) (e := .inr (ci, (List.range N).map (h_fv (fk ci) z I L a))) (by unfold h_cell; rw [ha, hso])
  refine va_get hexec hb hts hin hown hK hP q0 hq hc k hk hlink (fun _ h9 => by rw [hT] at h9; exact h9) (v := v) ?_ hdg kk
  simp [hk, hv]
theorem h_putI (hexec : p.tables.exec = Jvm.exec) (hb : c.code = cc) {own C : String} {T : u_T} {N ci index : Nat} {Ts : List Cond} (hts : ∀ w ∈ Ts, w.before args s = true) (hin : ∀ w ∈ u_ws C T N, w ∈ Ts) (ty0 : Nat → FieldType) (hty : ∀ k, k < N → parseFieldDescriptor (T k).2.2.1 = some (ty0 k)) (hnm : ∀ a, a < N → ∀ b, b < N → a ≠ b → (T a).2.1 ≠ (T b).2.1) (hown : s.vm.findClass own = some m.cls) (g : h_G so fk E A z I L s H0 H locs) {t : Nat} (ha : z.ty a = t) (h0 : t ≠ 0) (hso : so t = .inl (ci, N)) (hc : vwCl[ci]? = some (C, T, N)) (k : Nat) (hk : k < N) (hf : fk ci k = .lt) (hlink : (Cond.fieldLink own index C (T k).2.1 (T k).2.2.1).before args s = true) (hT : (T k).1 = C) (hfin : (T k).2.2.2 = false) {ty : FieldType} {v : Int32} (hd : parseFieldDescriptor (T k).2.2.1 = some ty) (hn : narrow ty (.int v) = .int v) (hfit : fits ty (.int v) = true) (hdg : decode cc pc = .ok (.putfield index, 3))
    (kk : ∀ (I1 : tI) (H : Heap) (locs : List Loc), I1 = h_up I a k v → h_G so fk E A z I1 L s H0 H locs → W p l e R s m args below meth c H locs cells slots Q (F0 m (pc + 3) ls rest)) : W p l e R s m args below meth c H locs cells slots Q (F0 m pc ls (.int v :: .ref a :: rest)) := by
  obtain ⟨hK, hS, ws, hP, hD, hW⟩ := g
  obtain ⟨q0, hq⟩ := hW.at (a := a) (by rw [ha]; exact h0) (e := .inr (ci, (List.range N).map (h_fv (fk ci) z I L a))) (by unfold h_cell; rw [ha, hso])
  refine va_put hexec hb hts hin ty0 hty hnm hown hK hP hD hS q0 hq hc k hk hlink (fun _ h9 => by rw [hT] at h9; exact h9) hfin hd hn hfit (by simpa using hk) hdg (fun H1 locs1 hP1 hD1 hS1 => ?_)
  refine kk _ H1 locs1 rfl ⟨hK, hS1, _, hP1, hD1, hW.set (z1 := z) (I1 := h_up I a k v) (L1 := L) hD hq rfl (fun b hb => h_cell_ne rfl (h_up_ne hb) rfl rfl) ?_⟩
  unfold h_cell
  rw [ha, hso]
  simp only
  rw [h_map_set (f := h_fv (fk ci) z I L a) (k := k) (v := .int v)]
  · simp [h_fv, hf, h_up_eq]
  · intro j hj
    simp [h_fv, h_up_at hj]
theorem h_putL (hexec : p.tables.exec = Jvm.exec) (hb : c.code = cc) {own C : String} {T : u_T} {N ci index : Nat} {Ts : List Cond} (hts : ∀ w ∈ Ts, w.before args s = true) (hin : ∀ w ∈ u_ws C T N, w ∈ Ts) (ty0 : Nat → FieldType) (hty : ∀ k, k < N → parseFieldDescriptor (T k).2.2.1 = some (ty0 k)) (hnm : ∀ a, a < N → ∀ b, b < N → a ≠ b → (T a).2.1 ≠ (T b).2.1) (hown : s.vm.findClass own = some m.cls) (g : h_G so fk E A z I L s H0 H locs) {t : Nat} (ha : z.ty a = t) (h0 : t ≠ 0) (hso : so t = .inl (ci, N)) (hc : vwCl[ci]? = some (C, T, N)) (k : Nat) (hk : k < N) (hf : fk ci k = .gt) (hlink : (Cond.fieldLink own index C (T k).2.1 (T k).2.2.1).before args s = true) (hT : (T k).1 = C) (hfin : (T k).2.2.2 = false) {ty : FieldType} {v : Int64} (hd : parseFieldDescriptor (T k).2.2.1 = some ty) (hn : narrow ty (.long v) = .long v) (hfit : fits ty (.long v) = true) (hdg : decode cc pc = .ok (.putfield index, 3))
    (kk : ∀ (L1 : tL) (H : Heap) (locs : List Loc), L1 = h_up L a k v → h_G so fk E A z I L1 s H0 H locs → W p l e R s m args below meth c H locs cells slots Q (F0 m (pc + 3) ls rest)) : W p l e R s m args below meth c H locs cells slots Q (F0 m pc ls (.long v :: .ref a :: rest)) := by
  obtain ⟨hK, hS, ws, hP, hD, hW⟩ := g
  obtain ⟨q0, hq⟩ := hW.at (a := a) (by rw [ha]; exact h0) (e := .inr (ci, (List.range N).map (h_fv (fk ci) z I L a))) (by unfold h_cell; rw [ha, hso])
  refine va_put hexec hb hts hin ty0 hty hnm hown hK hP hD hS q0 hq hc k hk hlink (fun _ h9 => by rw [hT] at h9; exact h9) hfin hd hn hfit (by simpa using hk) hdg (fun H1 locs1 hP1 hD1 hS1 => ?_)
  refine kk _ H1 locs1 rfl ⟨hK, hS1, _, hP1, hD1, hW.set (z1 := z) (L1 := h_up L a k v) (I1 := I) hD hq rfl (fun b hb => h_cell_ne rfl rfl rfl (h_up_ne hb)) ?_⟩
  unfold h_cell
  rw [ha, hso]
  simp only
  rw [h_map_set (f := h_fv (fk ci) z I L a) (k := k) (v := .long v)]
  · simp [h_fv, hf, h_up_eq]
  · intro j hj
    simp [h_fv, h_up_at hj]
theorem h_ald (hexec : p.tables.exec = Jvm.exec) (hb : c.code = cc) (g : h_G so fk E A z I L s H0 H locs) {t n : Nat} (ha : z.ty a = t) (h0 : t ≠ 0) (hso : so t = .inr (.int, n)) {i : Int32} (hin : vp_in i n) (hdg : decode cc pc = .ok (.iaload, 1))
    (kk : W p l e R s m args below meth c H locs cells slots Q (F0 m (pc + 1) ls (.int (I a i.toNatClampNeg) :: rest))) : W p l e R s m args below meth c H locs cells slots Q (F0 m pc ls (.int i :: .ref a :: rest)) := by
  obtain ⟨hK, hS, ws, hP, hD, hW⟩ := g
  obtain ⟨q0, hq⟩ := hW.at (a := a) (by rw [ha]; exact h0) (e := .inl (E.ci, n, .inl (I a))) (by unfold h_cell; rw [ha, hso])
  exact va_iald hexec hb hK hP q0 0 hq rfl hin hdg kk
theorem h_ast (hexec : p.tables.exec = Jvm.exec) (hb : c.code = cc) (g : h_G so fk E A z I L s H0 H locs) {t n : Nat} (ha : z.ty a = t) (h0 : t ≠ 0) (hso : so t = .inr (.int, n)) {i x : Int32} (hin : vp_in i n) (hdg : decode cc pc = .ok (.iastore, 1))
    (kk : ∀ (I1 : tI) (H : Heap) (locs : List Loc), I1 = h_up I a i.toNatClampNeg x → h_G so fk E A z I1 L s H0 H locs → W p l e R s m args below meth c H locs cells slots Q (F0 m (pc + 1) ls rest)) : W p l e R s m args below meth c H locs cells slots Q (F0 m pc ls (.int x :: .int i :: .ref a :: rest)) := by
  obtain ⟨hK, hS, ws, hP, hD, hW⟩ := g
  obtain ⟨q0, hq⟩ := hW.at (a := a) (by rw [ha]; exact h0) (e := .inl (E.ci, n, .inl (I a))) (by unfold h_cell; rw [ha, hso])
  refine va_iast hexec hb hK hP hD hS q0 0 hq rfl hin hdg (fun H1 locs1 hP1 hD1 hS1 => ?_)
  refine kk _ H1 locs1 rfl ⟨hK, hS1, _, hP1, hD1, hW.set (z1 := z) (I1 := h_up I a i.toNatClampNeg x) (L1 := L) hD hq rfl (fun b hb => h_cell_ne rfl (h_up_ne hb) rfl rfl) ?_⟩
  unfold h_cell
  rw [ha, hso]
  simp only
  congr 4
  funext j
  simp [h_up, upd]
theorem h_zald (hexec : p.tables.exec = Jvm.exec) (hb : c.code = cc) (g : h_G so fk E A z I L s H0 H locs) {t n : Nat} (ha : z.ty a = t) (h0 : t ≠ 0) (hso : so t = .inr (.boolean, n)) {i : Int32} (hin : vp_in i n) (hdg : decode cc pc = .ok (.baload, 1))
    (kk : W p l e R s m args below meth c H locs cells slots Q (F0 m (pc + 1) ls (.int (I a i.toNatClampNeg) :: rest))) : W p l e R s m args below meth c H locs cells slots Q (F0 m pc ls (.int i :: .ref a :: rest)) := by
  obtain ⟨hK, hS, ws, hP, hD, hW⟩ := g
  obtain ⟨q0, hq⟩ := hW.at (a := a) (by rw [ha]; exact h0) (e := .inl (E.cz, n, .inl (I a))) (by unfold h_cell; rw [ha, hso])
  exact va_zald hexec hb hK hP q0 1 hq rfl hin hdg kk
theorem h_zast (hexec : p.tables.exec = Jvm.exec) (hb : c.code = cc) (g : h_G so fk E A z I L s H0 H locs) {t n : Nat} (ha : z.ty a = t) (h0 : t ≠ 0) (hso : so t = .inr (.boolean, n)) {i x : Int32} (hin : vp_in i n) (hdg : decode cc pc = .ok (.bastore, 1))
    (kk : ∀ (I1 : tI) (H : Heap) (locs : List Loc), I1 = h_up I a i.toNatClampNeg (vp_nar .boolean x) → h_G so fk E A z I1 L s H0 H locs → W p l e R s m args below meth c H locs cells slots Q (F0 m (pc + 1) ls rest)) : W p l e R s m args below meth c H locs cells slots Q (F0 m pc ls (.int x :: .int i :: .ref a :: rest)) := by
  obtain ⟨hK, hS, ws, hP, hD, hW⟩ := g
  obtain ⟨q0, hq⟩ := hW.at (a := a) (by rw [ha]; exact h0) (e := .inl (E.cz, n, .inl (I a))) (by unfold h_cell; rw [ha, hso])
  refine va_zast hexec hb hK hP hD hS q0 1 hq rfl hin hdg (fun H1 locs1 hP1 hD1 hS1 => ?_)
  refine kk _ H1 locs1 rfl ⟨hK, hS1, _, hP1, hD1, hW.set (z1 := z) (I1 := h_up I a i.toNatClampNeg (vp_nar .boolean x)) (L1 := L) hD hq rfl (fun b hb => h_cell_ne rfl (h_up_ne hb) rfl rfl) ?_⟩
  unfold h_cell
  rw [ha, hso]
  simp only
  congr 4
  funext j
  simp [h_up, upd]
theorem h_bald (hexec : p.tables.exec = Jvm.exec) (hb : c.code = cc) (g : h_G so fk E A z I L s H0 H locs) {t n : Nat} (ha : z.ty a = t) (h0 : t ≠ 0) (hso : so t = .inr (.byte, n)) {i : Int32} (hin : vp_in i n) (hdg : decode cc pc = .ok (.baload, 1))
    (kk : W p l e R s m args below meth c H locs cells slots Q (F0 m (pc + 1) ls (.int (I a i.toNatClampNeg) :: rest))) : W p l e R s m args below meth c H locs cells slots Q (F0 m pc ls (.int i :: .ref a :: rest)) := by
  obtain ⟨hK, hS, ws, hP, hD, hW⟩ := g
  obtain ⟨q0, hq⟩ := hW.at (a := a) (by rw [ha]; exact h0) (e := .inl (E.cb, n, .inl (I a))) (by unfold h_cell; rw [ha, hso])
  exact va_bald hexec hb hK hP q0 2 hq rfl hin hdg kk
theorem h_bast (hexec : p.tables.exec = Jvm.exec) (hb : c.code = cc) (g : h_G so fk E A z I L s H0 H locs) {t n : Nat} (ha : z.ty a = t) (h0 : t ≠ 0) (hso : so t = .inr (.byte, n)) {i x : Int32} (hin : vp_in i n) (hdg : decode cc pc = .ok (.bastore, 1))
    (kk : ∀ (I1 : tI) (H : Heap) (locs : List Loc), I1 = h_up I a i.toNatClampNeg (vp_nar .byte x) → h_G so fk E A z I1 L s H0 H locs → W p l e R s m args below meth c H locs cells slots Q (F0 m (pc + 1) ls rest)) : W p l e R s m args below meth c H locs cells slots Q (F0 m pc ls (.int x :: .int i :: .ref a :: rest)) := by
  obtain ⟨hK, hS, ws, hP, hD, hW⟩ := g
  obtain ⟨q0, hq⟩ := hW.at (a := a) (by rw [ha]; exact h0) (e := .inl (E.cb, n, .inl (I a))) (by unfold h_cell; rw [ha, hso])
  refine va_bast hexec hb hK hP hD hS q0 2 hq rfl hin hdg (fun H1 locs1 hP1 hD1 hS1 => ?_)
  refine kk _ H1 locs1 rfl ⟨hK, hS1, _, hP1, hD1, hW.set (z1 := z) (I1 := h_up I a i.toNatClampNeg (vp_nar .byte x)) (L1 := L) hD hq rfl (fun b hb => h_cell_ne rfl (h_up_ne hb) rfl rfl) ?_⟩
  unfold h_cell
  rw [ha, hso]
  simp only
  congr 4
  funext j
  simp [h_up, upd]
theorem h_aldL (hexec : p.tables.exec = Jvm.exec) (hb : c.code = cc) (g : h_G so fk E A z I L s H0 H locs) {t n : Nat} (ha : z.ty a = t) (h0 : t ≠ 0) (hso : so t = .inr (.float, n)) {i : Int32} (hin : vp_in i n) (hdg : decode cc pc = .ok (.aaload, 1)) {v : Value} (hv : va_rf (z.R a i.toNatClampNeg) = v)
    (kk : W p l e R s m args below meth c H locs cells slots Q (F0 m (pc + 1) ls (v :: rest))) : W p l e R s m args below meth c H locs cells slots Q (F0 m pc ls (.int i :: .ref a :: rest)) := by
  subst hv
  obtain ⟨hK, hS, ws, hP, hD, hW⟩ := g
  obtain ⟨q0, hq⟩ := hW.at (a := a) (by rw [ha]; exact h0) (e := .inl (E.cL, n, .inr (.inr (.inr (.inr (z.R a)))))) (by unfold h_cell; rw [ha, hso])
  exact va_aldq (C := RX5) hexec hb hK hP q0 3 hq rfl hin hdg kk
theorem h_aldP (hexec : p.tables.exec = Jvm.exec) (hb : c.code = cc) (g : h_G so fk E A z I L s H0 H locs) {t n : Nat} (ha : z.ty a = t) (h0 : t ≠ 0) (hso : so t = .inr (.double, n)) {i : Int32} (hin : vp_in i n) (hdg : decode cc pc = .ok (.aaload, 1)) {v : Value} (hv : va_rf (z.R a i.toNatClampNeg) = v)
    (kk : W p l e R s m args below meth c H locs cells slots Q (F0 m (pc + 1) ls (v :: rest))) : W p l e R s m args below meth c H locs cells slots Q (F0 m pc ls (.int i :: .ref a :: rest)) := by
  subst hv
  obtain ⟨hK, hS, ws, hP, hD, hW⟩ := g
  obtain ⟨q0, hq⟩ := hW.at (a := a) (by rw [ha]; exact h0) (e := .inl (E.cP, n, .inr (.inr (.inr (.inr (z.R a)))))) (by unfold h_cell; rw [ha, hso])
  exact va_aldq (C := RX6) hexec hb hK hP q0 4 hq rfl hin hdg kk
theorem h_aldA (hexec : p.tables.exec = Jvm.exec) (hb : c.code = cc) (g : h_G so fk E A z I L s H0 H locs) {t n : Nat} (ha : z.ty a = t) (h0 : t ≠ 0) (hso : so t = .inr (.long, n)) {i : Int32} (hin : vp_in i n) (hdg : decode cc pc = .ok (.aaload, 1)) {v : Value} (hv : va_rf (z.R a i.toNatClampNeg) = v)
    (kk : W p l e R s m args below meth c H locs cells slots Q (F0 m (pc + 1) ls (v :: rest))) : W p l e R s m args below meth c H locs cells slots Q (F0 m pc ls (.int i :: .ref a :: rest)) := by
  subst hv
  obtain ⟨hK, hS, ws, hP, hD, hW⟩ := g
  obtain ⟨q0, hq⟩ := hW.at (a := a) (by rw [ha]; exact h0) (e := .inl (E.cA, n, .inr (.inr (.inr (.inr (z.R a)))))) (by unfold h_cell; rw [ha, hso])
  exact xm_ald hexec hb hK hP q0 5 hq rfl hin hdg kk
theorem h_alen (hexec : p.tables.exec = Jvm.exec) (hb : c.code = cc) (g : h_G so fk E A z I L s H0 H locs) {t n : Nat} (ha : z.ty a = t) (h0 : t ≠ 0) (hso : so t = .inr (.int, n) ∨ so t = .inr (.boolean, n) ∨ so t = .inr (.byte, n) ∨ so t = .inr (.float, n) ∨ so t = .inr (.double, n) ∨ so t = .inr (.long, n)) {v : Int32} (hv : Int32.ofNat n = v) (hdg : decode cc pc = .ok (.arraylength, 1))
    (kk : W p l e R s m args below meth c H locs cells slots Q (F0 m (pc + 1) ls (.int v :: rest))) : W p l e R s m args below meth c H locs cells slots Q (F0 m pc ls (.ref a :: rest)) := by
  obtain ⟨hK, hS, ws, hP, hD, hW⟩ := g
  obtain ⟨q0, hq⟩ := hW a (by rw [ha]; exact h0)
  unfold h_cell at hq
  rw [ha] at hq
  rcases hso with h | h | h | h | h | h <;> rw [h] at hq
  · exact va_alen hexec hb hK hP q0 0 hq rfl hv hdg kk
  · exact va_alen hexec hb hK hP q0 1 hq rfl hv hdg kk
  · exact va_alen hexec hb hK hP q0 2 hq rfl hv hdg kk
  · exact va_alen hexec hb hK hP q0 3 hq rfl hv hdg kk
  · exact va_alen hexec hb hK hP q0 4 hq rfl hv hdg kk
  · exact va_alen hexec hb hK hP q0 5 hq rfl hv hdg kk
end HL

