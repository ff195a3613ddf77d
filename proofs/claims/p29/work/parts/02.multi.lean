/-! new int[n][m]: own rows, over the model's own 'make' -/
def xm_o (cO : ClassId) (N h i : Nat) : Cell := arrV cO N (fun j => va_rf (if j < i then some (h + 1 + j) else none))
def xm_r (cI : ClassId) (M : Nat) : Cell := arrV cI M (fun _ => .int 0)
def xm_f (T : State) (cO cI : ClassId) (N M : Nat) : Nat → State
  | 0 => T.pushCell (xm_o cO N T.heap.size 0)
  | i + 1 => ((xm_f T cO cI N M i).pushCell (xm_r cI M)).setCell T.heap.size (xm_o cO N T.heap.size (i + 1))
theorem xm_o_step (cO : ClassId) (N h i : Nat) : (xm_o cO N h i).setSlot i (.ref (h + 1 + i)) = xm_o cO N h (i + 1) := by
  unfold xm_o
  rw [arrV_store]
  refine congrArg (arrV cO N) (funext fun j => ?_)
  by_cases e : j = i
  · subst e; simp [updV, va_rf]
  · by_cases h : j < i
    · simp [updV, e, h, Nat.lt_succ_of_lt h]
    · simp [updV, e, h, show ¬ j < i + 1 by omega]
theorem xm_f_facts (T : State) (cO cI : ClassId) (N M : Nat) : ∀ i, (xm_f T cO cI N M i).heap.size = T.heap.size + 1 + i ∧ (xm_f T cO cI N M i).heap[T.heap.size]? = some (xm_o cO N T.heap.size i) ∧ (xm_f T cO cI N M i).vm = T.vm ∧ (xm_f T cO cI N M i).slotsUsed = T.slotsUsed + N + i * M
  | 0 => ⟨by simp [xm_f], by simp [xm_f], rfl, by simp [xm_f, xm_o, arrV]⟩
  | i + 1 => by
    obtain ⟨a, b, d, u⟩ := xm_f_facts T cO cI N M i
    have hlt : T.heap.size < (xm_f T cO cI N M i).heap.size := by omega
    have hb' : ((xm_f T cO cI N M i).pushCell (xm_r cI M)).heap[T.heap.size]? = some (xm_o cO N T.heap.size i) := by rw [State.heap_pushCell_of_lt (h := hlt)]; exact b
    refine ⟨?_, State.heap_setCell_self hb', by simp [xm_f, d], ?_⟩
    · simp [xm_f, State.setCell, a]; omega
    · simp [xm_f, u, xm_r, arrV, Nat.succ_mul]; omega
theorem xm_f_top (T : State) (f : JFrame) (cO cI : ClassId) (N M : Nat) : ∀ i, xm_f (T.setTop f) cO cI N M i = (xm_f T cO cI N M i).setTop f
  | 0 => rfl
  | i + 1 => by simp only [xm_f, xm_f_top T f cO cI N M i, State.heap_setTop, State.pushCell_setTop, State.setCell_setTop]
theorem xm_f_old (T : State) (cO cI : ClassId) (N M : Nat) {a : Addr} (ha : a < T.heap.size) : ∀ i, (xm_f T cO cI N M i).heap[a]? = T.heap[a]?
  | 0 => State.heap_pushCell_of_lt _ _ ha
  | i + 1 => by
    have f1 := (xm_f_facts T cO cI N M i).1
    have hlt : a < (xm_f T cO cI N M i).heap.size := Nat.lt_of_lt_of_le ha (by rw [f1]; omega)
    show (((xm_f T cO cI N M i).pushCell (xm_r cI M)).setCell T.heap.size _).heap[a]? = _
    rw [State.heap_setCell_other (Nat.ne_of_gt ha), State.heap_pushCell_of_lt (h := hlt)]
    exact xm_f_old T cO cI N M ha i
theorem xm_f_in (T : State) (cO cI : ClassId) (N M : Nat) : ∀ i j, j < i → (xm_f T cO cI N M i).heap[T.heap.size + 1 + j]? = some (xm_r cI M)
  | 0, _, h => absurd h (Nat.not_lt_zero _)
  | i + 1, j, h => by
    have f1 := (xm_f_facts T cO cI N M i).1
    show (((xm_f T cO cI N M i).pushCell (xm_r cI M)).setCell T.heap.size _).heap[T.heap.size + 1 + j]? = _
    rw [State.heap_setCell_other (show T.heap.size ≠ T.heap.size + 1 + j by omega)]
    rcases Nat.lt_or_ge j i with hj | hj
    · have hlt : T.heap.size + 1 + j < (xm_f T cO cI N M i).heap.size := by rw [f1]; omega
      rw [State.heap_pushCell_of_lt (h := hlt)]
      exact xm_f_in T cO cI N M i j hj
    · have e : j = i := by omega
      subst e
      rw [← f1]
      exact State.heap_pushCell_size _ _
section XM
variable {E : CtlPost} {e : Env} {d : Bool} {acts : List Action} {s : State}
theorem xm_na {c comp : ClassId} {k : Class} {type : FieldType} {len : Nat} {init : Value} (hk : s.vm.classes[c]? = some k) (hkind : k.kind = .array comp type)
    (hlimit : ¬ len > e.platform.arrayLengthLimit) (hheap : ¬ len * componentBytes type > e.platform.maxHeapBytes) (hfit : fits type init = true) (hdef : init.isDefault = true) {Q : Addr → Pre}
    (h1 : s.heap.size < e.platform.maxCells) (h2 : s.slotsUsed + len ≤ e.platform.maxSlots) (hq : Q s.heap.size d acts (s.pushCell (arrV c len (fun _ => init)))) : wp (Jvm.newArray c len init) Q E e d acts s := by
  rw [← arrV_new] at hq
  have hfits : ∀ i v, (Array.replicate len init)[i]? = some v → s.fitsSlot c .none i v = true := by
    intro i v hv
    simp only [Array.getElem?_replicate] at hv
    split at hv
    · cases hv; simp [State.fitsSlot, State.slotType?, hk, hkind, hfit]
    · cases hv
  have hda : allocActs (Array.replicate len init) s.heap.size acts = acts := by
    have hall : ((Array.replicate len init).all (·.isDefault)) = true := by
      rw [Array.all_replicate]; split <;> simp [hdef]
    unfold allocActs; rw [if_pos hall]
  simp only [Jvm.newArray, Jvm.arrayFits, wp_bind', Jvm.W.ask, Jvm.W.ite, hlimit, if_false, wp_pure', Jvm.W.theClass, hk, hkind, hheap, Jvm.W.alloc, Jvm.W.stop, Option.some.injEq, exists_eq_left', Array.size_replicate, hda]
  rw [if_neg (by omega)]
  exact ⟨h1, h2, hfits, hq⟩
theorem xm_m1 {comp cc : ClassId} {kc : Class} {m : Int32} (hkc : s.vm.classes[comp]? = some kc) (hkindc : kc.kind = .array cc .int) (hm : ¬ m < 0)
    (hl2 : ¬ m.toNatClampNeg > e.platform.arrayLengthLimit) (hh2 : ¬ m.toNatClampNeg * componentBytes .int > e.platform.maxHeapBytes) (h1 : s.heap.size < e.platform.maxCells) (h2 : s.slotsUsed + m.toNatClampNeg ≤ e.platform.maxSlots)
    {Q : Addr → Pre} (hq : Q s.heap.size d acts (s.pushCell (xm_r comp m.toNatClampNeg))) : wp (Jvm.Op.multianewarray.make comp [m]) Q E e d acts s := by
  rw [Jvm.Op.multianewarray.make]
  simp only [wp_bind', Jvm.W.ite, hm, if_false, wp_pure', Jvm.W.theClass, hkc, hkindc, Option.some.injEq, exists_eq_left']
  exact xm_na hkc hkindc hl2 hh2 rfl rfl h1 h2 hq
theorem xm_m2 {c comp cc : ClassId} {k kc : Class} {n m : Int32} (hk : s.vm.classes[c]? = some k) (hkind : k.kind = .array comp (.array .int))
    (hkc : s.vm.classes[comp]? = some kc) (hkindc : kc.kind = .array cc .int) (hn : ¬ n < 0) (hm : ¬ m < 0)
    (hl1 : ¬ n.toNatClampNeg > e.platform.arrayLengthLimit) (hh1 : ¬ n.toNatClampNeg * componentBytes (.array .int) > e.platform.maxHeapBytes)
    (hl2 : ¬ m.toNatClampNeg > e.platform.arrayLengthLimit) (hh2 : ¬ m.toNatClampNeg * componentBytes .int > e.platform.maxHeapBytes)
    (hc : s.heap.size + 1 + n.toNatClampNeg ≤ e.platform.maxCells) (hs : s.slotsUsed + n.toNatClampNeg + n.toNatClampNeg * m.toNatClampNeg ≤ e.platform.maxSlots)
    {Q : Addr → Pre} (hq : ∀ d' acts', Q s.heap.size d' acts' (xm_f s c comp n.toNatClampNeg m.toNatClampNeg n.toNatClampNeg)) : wp (Jvm.Op.multianewarray.make c [n, m]) Q E e d acts s := by
  have hfind : ([m].find? (· < 0)) = none := by simp [hm]
  rw [Jvm.Op.multianewarray.make]
  simp only [wp_bind', Jvm.W.ite, hn, if_false, wp_pure', Jvm.W.theClass, hk, hkind, Option.some.injEq, exists_eq_left']
  refine xm_na hk hkind hl1 hh1 rfl rfl (by omega) (by have := Nat.zero_le (n.toNatClampNeg * m.toNatClampNeg); omega) ?_
  simp only [hfind]
  rw [ite_self, wp_bind', Std.Legacy.Range.forIn_eq_forIn_range']
  have hsz : ([:n.toNatClampNeg] : Std.Legacy.Range).size = n.toNatClampNeg := by simp [Std.Legacy.Range.size]
  rw [hsz]
  have h0 : s.pushCell (arrV c n.toNatClampNeg (fun _ => Value.null)) = xm_f s c comp n.toNatClampNeg m.toNatClampNeg 0 := by
    show _ = s.pushCell (xm_o c n.toNatClampNeg s.heap.size 0)
    unfold xm_o
    refine congrArg s.pushCell (congrArg (arrV c n.toNatClampNeg) (funext fun j => ?_))
    simp [va_rf]
  rw [h0]
  show wp (forIn (List.range' 0 n.toNatClampNeg 1) PUnit.unit _) _ E e d acts _
  refine wp_forIn_inv (fun rest s' => ∃ i, i ≤ n.toNatClampNeg ∧ rest = List.range' i (n.toNatClampNeg - i) ∧ s' = xm_f s c comp n.toNatClampNeg m.toNatClampNeg i) _ _ ⟨0, Nat.zero_le _, rfl, rfl⟩ ?_ ?_
  · rintro x rest s' d' acts' Q' ⟨i, hi, hl, rfl⟩ hnext
    have hlt : i < n.toNatClampNeg := by
      rcases Nat.lt_or_ge i n.toNatClampNeg with h | h
      · exact h
      · rw [show n.toNatClampNeg - i = 0 from by omega] at hl; simp at hl
    obtain ⟨rfl, hrest⟩ : x = i ∧ rest = List.range' (i + 1) (n.toNatClampNeg - (i + 1)) := by
      rw [show n.toNatClampNeg - i = (n.toNatClampNeg - (i + 1)) + 1 from by omega, List.range'_succ] at hl
      exact ⟨(List.cons.inj hl).1, (List.cons.inj hl).2⟩
    obtain ⟨f1, f2, f3, f4⟩ := xm_f_facts s c comp n.toNatClampNeg m.toNatClampNeg x
    have hmul : x * m.toNatClampNeg + m.toNatClampNeg ≤ n.toNatClampNeg * m.toNatClampNeg := by
      have := Nat.mul_le_mul_right m.toNatClampNeg (show x + 1 ≤ n.toNatClampNeg from hlt)
      rw [Nat.succ_mul] at this; exact this
    simp only [wp_bind']
    refine xm_m1 (by rw [f3]; exact hkc) hkindc hm hl2 hh2 (by rw [f1]; omega) (by rw [f4]; omega) ?_
    have hlt0 : s.heap.size < (xm_f s c comp n.toNatClampNeg m.toNatClampNeg x).heap.size := by rw [f1]; omega
    simp only [wp_bind', Jvm.W.writeLoc, wp_pure']
    refine ⟨xm_o c n.toNatClampNeg s.heap.size x, by rw [State.heap_pushCell_of_lt (h := hlt0)]; exact f2, by simp [xm_o, arrV], by simp [xm_o, arrV]; exact hlt, ?_, hnext _ _ _ ⟨x + 1, hlt, hrest, ?_⟩⟩
    · simp [xm_o, arrV, State.fitsSlot, State.slotType?, f3, hk, hkind]
      rfl
    · rw [f1, xm_o_step]; rfl
  · rintro s' d' acts' ⟨i, hi, hl, rfl⟩
    have hiN : i = n.toNatClampNeg := by
      rcases Nat.lt_or_ge i n.toNatClampNeg with h | h
      · rw [show n.toNatClampNeg - i = (n.toNatClampNeg - (i + 1)) + 1 from by omega, List.range'_succ] at hl; cases hl
      · omega
    subst hiN
    simp only [wp_pure']
    exact hq _ _
end XM
/-- the class of int[][], as the tables have it -/
def xG (U : State) : Prop := ∃ (comp c : ClassId) (k : Class), U.vm.findClass (FieldType.array .int).toString = some comp ∧ U.vm.classes[c]? = some k ∧ k.kind = .array comp (.array .int) ∧ U.vm.findClass ("[" ++ (FieldType.array .int).toString) = some c
theorem xG.of {args : Array Value} {U : State} (h : (Cond.arrayOver (.array .int)).before args U = true) : xG U := by
  obtain ⟨comp, c, k, h1, -, h3, h4, h5⟩ := arrayOverA_spec h
  exact ⟨comp, c, k, h1, h3, h4, h5⟩
theorem xG.moved {u U : State} (hvm : u.vm.Alike U.vm) (h : xG u) : xG U := by
  obtain ⟨comp, c, k, h1, h3, h4, h5⟩ := h
  obtain ⟨k', hk', he⟩ := hvm.2.2 _ _ h3
  exact ⟨comp, c, k', by rw [hvm.findClass]; exact h1, hk', by rw [he]; exact h4, by rw [hvm.findClass]; exact h5⟩
section XMW
variable {p : Program} {l : Launch} {e : Env} {R : Room} {s : State} {m : MethodId} {args : Array Value} {below : List Frame} {meth : Method} {c : Code} {locs : List Loc} {cells slots : Nat} {Q : State → Prop}
theorem xm_stand {T : State} (X : Stand p l e R s m args below meth c T locs cells slots) (cO cI : ClassId) (N M : Nat) :
    ∀ i, Stand p l e R s m args below meth c (xm_f T cO cI N M i) (locs ++ (List.range i).map fun j => ⟨T.heap.size, j⟩) (cells + 1 + i) (slots + N + i * M)
  | 0 => by
    have h := X.pushed (xm_o cO N T.heap.size 0)
    rw [show (xm_o cO N T.heap.size 0).slots.size = N from arrV_size _ _ _] at h
    simpa [xm_f] using h
  | i + 1 => by
    have Xi := xm_stand X cO cI N M i
    obtain ⟨f1, f2, f3, f4⟩ := xm_f_facts T cO cI N M i
    have hlt0 : T.heap.size < (xm_f T cO cI N M i).heap.size := by rw [f1]; omega
    have hcell : ((xm_f T cO cI N M i).pushCell (xm_r cI M)).heap[T.heap.size]? = some (xm_o cO N T.heap.size i) := by rw [State.heap_pushCell_of_lt (h := hlt0)]; exact f2
    have h := (Xi.pushed (xm_r cI M)).stored hcell i (.ref (T.heap.size + 1 + i))
    rw [show (xm_r cI M).slots.size = M from arrV_size _ _ _, xm_o_step] at h
    have e2 : (locs ++ (List.range (i + 1)).map fun j => (⟨T.heap.size, j⟩ : Loc)) = (locs ++ (List.range i).map fun j => (⟨T.heap.size, j⟩ : Loc)) ++ [⟨T.heap.size, i⟩] := by simp [List.range_succ, List.append_assoc]
    have e3 : slots + N + (i + 1) * M = slots + N + i * M + M := by rw [Nat.succ_mul]; omega
    rw [e2, e3]
    exact h
variable {H H0 : Heap} {cc : ByteArray} {pc : Nat} {ls : Array Slot} {rest : List Value} {D : va_G} {cl : List vw_C} {tys : List (ClassId × FieldType)} {ws : va_W} {A : Nat → Prop}
def xm_rows (q N M : Nat) (cI : ClassId) : va_W := (List.range N).map (fun j => (q + 1 + j, .inl (cI, M, .inl (fun _ => 0))))
def xm_new (q N M : Nat) (cO cI : ClassId) : va_W := (q, .inl (cO, N, .inr (.inr (.inr (.inr (fun j => if j < N then some (q + 1 + j) else none)))))) :: xm_rows q N M cI
theorem xm_new_at {q N M : Nat} {cO cI : ClassId} {k : Nat} {x : Nat × va_E} (h : (xm_new q N M cO cI)[k]? = some x) : x.1 = q + k ∧ ((k = 0 ∧ x.2 = .inl (cO, N, .inr (.inr (.inr (.inr (fun j => if j < N then some (q + 1 + j) else none))))))  ∨ (0 < k ∧ k - 1 < N ∧ x.2 = .inl (cI, M, .inl (fun _ => 0)))) := by
  cases k with
  | zero =>
    rw [xm_new, List.getElem?_cons_zero] at h
    cases h
    exact ⟨rfl, Or.inl ⟨rfl, rfl⟩⟩
  | succ k =>
    rw [xm_new, List.getElem?_cons_succ, xm_rows, List.getElem?_map] at h
    cases hr : (List.range N)[k]? with
    | none => rw [hr] at h; cases h
    | some j =>
      rw [hr] at h
      have hk := (List.getElem?_eq_some_iff.mp hr).1
      rw [List.length_range] at hk
      have hj : k = j := by
        have := (List.getElem?_eq_some_iff.mp hr).2
        simpa using this
      subst hj
      cases h
      refine ⟨?_, Or.inr ⟨Nat.succ_pos _, ?_, rfl⟩⟩
      · show q + 1 + k = q + (k + 1)
        omega
      · show k + 1 - 1 < N
        omega
theorem xm_multi (hexec : p.tables.exec = Jvm.exec) (hb : c.code = cc) {own : String} {index : Nat} (hown : s.vm.findClass own = some m.cls) (hclink : (Cond.classLink own index "[[I").before args s = true)
    (hover : xG s) (harr : (Cond.arrayClass .int).before args s = true)
    (hK : va_K D cl tys s) (hP : va_P D cl ws H) (hD : va_D A ws) (hS : va_S A H0 H locs) (hA : ∀ q, H0.size ≤ q → A q)
    {n k : Int32} {N M : Nat} (hn : ¬ n < 0) (hk : ¬ k < 0) (hN : n.toNatClampNeg = N) (hM : k.toNatClampNeg = M) (hb1 : N * 4 ≤ 536870912) (hb2 : M * 4 ≤ 536870912) (hcells : cells + (1 + N) ≤ R.cells) (hslots : slots + (N + N * M) ≤ R.slots)
    (hdg : decode cc pc = .ok (.multianewarray index 2, 4))
    (kk : ∀ (q : Nat) (cO cI : ClassId) (H1 : Heap) (locs1 : List Loc), va_K D cl (tys ++ [(cO, .array .int), (cI, .int)]) s → va_P D cl (ws ++ xm_new q N M cO cI) H1 → va_D A (ws ++ xm_new q N M cO cI) → va_S A H0 H1 locs1 →
      W p l e R s m args below meth c H1 locs1 (cells + 1 + N) (slots + N + N * M) Q (F0 m (pc + 4) ls (.ref q :: rest))) : W p l e R s m args below meth c H locs cells slots Q (F0 m pc ls (.int k :: .int n :: rest)) := by
  subst hN; subst hM
  intro T hT X
  subst hT; subst hb
  have hpl : e.platform.magicAccessors = ({} : Platform).magicAccessors := by rw [X.admits.platform]
  obtain ⟨comp, cA, kA, hcomp, hkA, hkindA, hnameA⟩ := hover
  obtain ⟨comp', kC, cc, hcomp', hkC, hkindC⟩ := Cond.arrayClass_spec harr
  have ecomp : comp' = comp := Option.some.inj (hcomp'.symm.trans hcomp)
  subst ecomp
  obtain ⟨c0, hfc0, hcl⟩ := Cond.classLink_spec hown hclink e.platform hpl
  have hc0 : c0 = cA := Option.some.inj (hfc0.symm.trans hnameA)
  subst hc0
  obtain ⟨hg₁, hwarm₁, hready₁⟩ := State.classEntry (e := e) X.warmed hcl
  generalize T.vm.noted m.cls index (.cls c0) = vm₁ at hg₁ hwarm₁ hready₁
  have hal : s.vm.Alike vm₁ := hwarm₁.alike
  obtain ⟨kA₁, hkA₁, heA⟩ := hal.2.2 _ _ hkA
  obtain ⟨kC₁, hkC₁, heC⟩ := hal.2.2 _ _ hkC
  have hkindA₁ : kA₁.kind = .array comp' (.array .int) := by rw [heA]; exact hkindA
  have hkindC₁ : kC₁.kind = .array cc .int := by rw [heC]; exact hkindC
  have X₁ := X.noted hwarm₁
  obtain ⟨hr1, hr2⟩ := X.roomAbove hcells hslots
  have XF := xm_stand X₁ c0 comp' n.toNatClampNeg k.toNatClampNeg n.toNatClampNeg
  obtain ⟨f1, f2, f3, f4⟩ := xm_f_facts (T.setVm vm₁) c0 comp' n.toNatClampNeg k.toNatClampNeg n.toNatClampNeg
  have o1 : ∀ q : Nat, q < T.heap.size → (xm_f (T.setVm vm₁) c0 comp' n.toNatClampNeg k.toNatClampNeg n.toNatClampNeg).heap[q]? = T.heap[q]? := fun q hq => xm_f_old (T.setVm vm₁) c0 comp' n.toNatClampNeg k.toNatClampNeg hq _
  have hAO : ArrOfT s c0 (.array .int) := fun N z => ⟨(fun k h => by cases h), kA, hkA, comp', hkindA⟩
  have hAI : ArrOfT s comp' .int := fun N z => ⟨(fun k h => by cases h), kC, hkC, cc, hkindC⟩
  have hK1 : va_K D cl (tys ++ [(c0, .array .int), (comp', .int)]) s := by
    refine hK.app ⟨hK.1, fun i x hx => ?_⟩
    match i, hx with
    | 0, hx => cases hx; exact ⟨hAO, hnameA⟩
    | 1, hx => cases hx; exact ⟨hAI, hcomp⟩
    | i + 2, hx => simp at hx
  have hP1 : va_P D cl (ws ++ xm_new T.heap.size n.toNatClampNeg k.toNatClampNeg c0 comp') (xm_f (T.setVm vm₁) c0 comp' n.toNatClampNeg k.toNatClampNeg n.toNatClampNeg).heap := by
    refine (hP.kept (fun i x hx => o1 x.1 ((hP i x hx).lt))).app (fun i x hx => ?_)
    obtain ⟨a, ev⟩ := x
    obtain ⟨g1, g2⟩ := xm_new_at hx
    rcases g2 with ⟨rfl, g2⟩ | ⟨g2, g3, g4⟩
    · cases g1; cases g2
      exact f2
    · dsimp only at g1 g4
      subst g1; subst g4
      show (xm_f (T.setVm vm₁) c0 comp' n.toNatClampNeg k.toNatClampNeg n.toNatClampNeg).heap[T.heap.size + i]? = some (vp_cell comp' (k.toNatClampNeg, .inl (fun _ => 0)))
      have h := xm_f_in (T.setVm vm₁) c0 comp' n.toNatClampNeg k.toNatClampNeg n.toNatClampNeg (i - 1) g3
      rw [show (T.setVm vm₁).heap.size + 1 + (i - 1) = T.heap.size + i by show T.heap.size + 1 + (i - 1) = _; omega] at h
      exact h
  have hD1 : va_D A (ws ++ xm_new T.heap.size n.toNatClampNeg k.toNatClampNeg c0 comp') := by
    refine hD.app ⟨fun i j x y hi hj hxy => ?_, fun i x hx => ?_⟩ (fun i j x y hi hj => ?_)
    · have a1 := (xm_new_at hi).1
      have a2 := (xm_new_at hj).1
      omega
    · refine hA _ ?_
      have a1 := (xm_new_at hx).1
      have a2 := hS.1
      omega
    · have a1 := (xm_new_at hj).1
      have a2 := (hP i x hi).lt
      omega
  have hS1 : va_S A H0 (xm_f (T.setVm vm₁) c0 comp' n.toNatClampNeg k.toNatClampNeg n.toNatClampNeg).heap (locs ++ (List.range n.toNatClampNeg).map fun j => ⟨T.heap.size, j⟩) := by
    refine ⟨?_, fun q h1 h2 => (o1 q (Nat.lt_of_lt_of_le h1 hS.1)).trans (hS.2.1 q h1 h2), fun q hq => ?_⟩
    · have := hS.1
      have f1' : (xm_f (T.setVm vm₁) c0 comp' n.toNatClampNeg k.toNatClampNeg n.toNatClampNeg).heap.size = T.heap.size + 1 + n.toNatClampNeg := f1
      omega
    · rcases List.mem_append.mp hq with h | h
      · exact hS.2.2 q h
      · obtain ⟨j, -, rfl⟩ := List.mem_map.mp h
        exact hA _ hS.1
  obtain ⟨t, a1, b1⟩ := kk T.heap.size c0 comp' _ _ hK1 hP1 hD1 hS1 _ rfl XF
  refine ⟨t, ?_, b1⟩
  have hl1 : ¬ n.toNatClampNeg > e.platform.arrayLengthLimit := by rw [Launch.admits_arrayLengthLimit X.admits]; omega
  have hh1 : ¬ n.toNatClampNeg * componentBytes (.array .int) > e.platform.maxHeapBytes := by
    rw [Launch.admits_maxHeapBytes X.admits]; show ¬ n.toNatClampNeg * 4 > 536870912; omega
  have hl2 : ¬ k.toNatClampNeg > e.platform.arrayLengthLimit := by rw [Launch.admits_arrayLengthLimit X.admits]; omega
  have hh2 : ¬ k.toNatClampNeg * componentBytes .int > e.platform.maxHeapBytes := by
    rw [Launch.admits_maxHeapBytes X.admits]; show ¬ k.toNatClampNeg * 4 > 536870912; omega
  generalize hgf : F0 m pc ls (.int k :: .int n :: rest) = g at *
  have hgm : g.method = m := by rw [← hgf]
  have hgp : decode c.code g.pc = .ok (.multianewarray index 2, 4) := by rw [← hgf]; exact hdg
  have hgs : g.stack = .int k :: .int n :: rest := by rw [← hgf]
  have hge : F0 m (pc + 4) ls (.ref T.heap.size :: rest) = { g with pc := g.pc + 4, stack := .ref T.heap.size :: rest } := by rw [← hgf]
  rw [hge] at a1
  subst hgm
  jvm_step X.here [hexec, hgp]
  simp only [Jvm.Op.multianewarray.sem, wp_bind', Jvm.W.resolveClassAt_links (State.method?_setTop g X.here.top) hg₁]
  rw [Jvm.W.popN, if_neg (by decide)]
  refine ⟨g, State.topJava?_setTop' (s := T.setVm vm₁) g X.here.top, [.int n, .int k], rest, rfl, hgs, ?_⟩
  simp only [List.mapM_cons, List.mapM_nil, wp_bind', wp_pure']
  refine xm_m2 (k := kA₁) (kc := kC₁) (comp := comp') (cc := cc) hkA₁ hkindA₁ hkC₁ hkindC₁ hn hk hl1 hh1 hl2 hh2 (by show T.heap.size + 1 + _ ≤ _; omega) (by show T.slotsUsed + _ + _ ≤ _; omega) (fun d' acts' => ?_)
  have eS : ((T.setTop g).setVm vm₁).setTop { g with stack := rest } = (T.setVm vm₁).setTop { g with stack := rest } := by
    show ((T.setVm vm₁).setTop g).setTop _ = _
    rw [State.setTop_setTop]
  rw [eS, xm_f_top]
  simp only [wp_bind', Jvm.W.mark, Jvm.W.pushRef, State.topJava?_setTop' _ XF.here.top, Option.some.injEq, exists_eq_left', State.setTop_setTop, State.heap_setTop]
  intro acts
  simp [jvm, XF.here.top]
  exact a1
end XMW

