/-! own small rows: numbers, constants on the stack, the facts that every method is given -/
theorem xi_lt {x y : Int32} {a b : Int} (h : x < y) (hx : x.toInt = a) (hy : y.toInt = b) : a < b := by rw [← hx, ← hy]; exact Int32.lt_iff_toInt_lt.mp h
theorem xi_le {x y : Int32} {a b : Int} (h : x ≤ y) (hx : x.toInt = a) (hy : y.toInt = b) : a ≤ b := by rw [← hx, ← hy]; exact Int32.le_iff_toInt_le.mp h
theorem xi_nlt {x y : Int32} {a b : Int} (h : ¬ x < y) (hx : x.toInt = a) (hy : y.toInt = b) : b ≤ a := by rw [← hx, ← hy]; exact Int.not_lt.mp (fun q => h (Int32.lt_iff_toInt_lt.mpr q))
theorem xi_nle {x y : Int32} {a b : Int} (h : ¬ x ≤ y) (hx : x.toInt = a) (hy : y.toInt = b) : b < a := by rw [← hx, ← hy]; exact Int.not_le.mp (fun q => h (Int32.le_iff_toInt_le.mpr q))
theorem xi_eq {x y : Int32} {a b : Int} (h : x = y) (hx : x.toInt = a) (hy : y.toInt = b) : a = b := by rw [← hx, ← hy, h]
theorem xi_ne {x y : Int32} {a b : Int} (h : ¬ x = y) (hx : x.toInt = a) (hy : y.toInt = b) : a ≠ b := by
  rw [← hx, ← hy]
  exact fun q => h (Int32.toInt_inj.mp q)
theorem xi_of {x y : Int32} (h : x.toInt = y.toInt) : x = y := Int32.toInt_inj.mp h
theorem xi_lo (x : Int32) : -2147483648 ≤ x.toInt := Int32.le_toInt x
theorem xi_hi (x : Int32) : x.toInt < 2147483648 := Int32.toInt_lt x
theorem xi_add {x y v : Int32} {a b : Int} (e : v = x + y) (hx : x.toInt = a) (hy : y.toInt = b) (h1 : -2147483648 ≤ a + b) (h2 : a + b < 2147483648) : v.toInt = a + b := by
  rw [e, Int32.toInt_add, hx, hy]; exact Int.bmod_eq_of_le (by omega) (by omega)
theorem xi_sub {x y v : Int32} {a b : Int} (e : v = x - y) (hx : x.toInt = a) (hy : y.toInt = b) (h1 : -2147483648 ≤ a - b) (h2 : a - b < 2147483648) : v.toInt = a - b := by
  rw [e, Int32.toInt_sub, hx, hy]; exact Int.bmod_eq_of_le (by omega) (by omega)
theorem xi_mul {x y v : Int32} {a b : Int} (e : v = x * y) (hx : x.toInt = a) (hy : y.toInt = b) (h1 : -2147483648 ≤ a * b) (h2 : a * b < 2147483648) : v.toInt = a * b := by
  rw [e, Int32.toInt_mul, hx, hy]; exact Int.bmod_eq_of_le (by omega) (by omega)
theorem xi_div {x y v : Int32} {k : Int} (e : v = x / y) (hx : 0 ≤ x.toInt) (hy : y.toInt = k) (hk : 0 < k) : v.toInt = x.toInt / k := by
  have h1 := xi_hi x
  have h2 : 0 ≤ x.toInt / k := Int.ediv_nonneg hx (by omega)
  have h3 : x.toInt / k ≤ x.toInt := Int.ediv_le_self _ hx
  rw [e, Int32.toInt_div, hy, Int.tdiv_eq_ediv_of_nonneg hx]
  exact Int.bmod_eq_of_le (by omega) (by omega)
theorem xi_in {x : Int32} {n : Nat} (h0 : 0 ≤ x.toInt) (h1 : x.toInt < n) : vp_in x n := vp_in_iff.mpr ⟨h0, h1⟩
theorem xi_64 (x : Int32) : x.toInt64.toInt = x.toInt := by simp
theorem xl_lt {x y : Int64} (h : lg_cmp x y < 0) : x.toInt < y.toInt := Int64.lt_iff_toInt_lt.mp ((lg_cmp_lt x y).mp h)
theorem xl_nlt {x y : Int64} (h : ¬ lg_cmp x y < 0) : y.toInt ≤ x.toInt := Int.not_lt.mp (fun q => h ((lg_cmp_lt x y).mpr (Int64.lt_iff_toInt_lt.mpr q)))
theorem xl_gt {x y : Int64} (h : 0 < lg_cmp x y) : y.toInt < x.toInt := Int64.lt_iff_toInt_lt.mp ((lg_cmp_gt x y).mp h)
theorem xl_ngt {x y : Int64} (h : ¬ 0 < lg_cmp x y) : x.toInt ≤ y.toInt := Int.not_lt.mp (fun q => h ((lg_cmp_gt x y).mpr (Int64.lt_iff_toInt_lt.mpr q)))
section XB
variable {p : Program} {l : Launch} {e : Env} {R : Room} {s : State} {m : MethodId} {args : Array Value} {below : List Frame} {meth : Method} {c : Code} {H : Heap} {locs : List Loc} {cells slots : Nat} {Q : State → Prop}
variable {cc : ByteArray} {pc : Nat} {ls : Array Slot} {rest : List Value} {D : va_G} {cl : List vw_C} {A : Nat → Prop} {a : Nat} {tys : List (ClassId × FieldType)} {ws : va_W} {H0 : Heap}
/-- the top number under another name -/
theorem xw_i {x v : Int32} (h : x = v) (k : W p l e R s m args below meth c H locs cells slots Q (F0 m pc ls (.int v :: rest))) : W p l e R s m args below meth c H locs cells slots Q (F0 m pc ls (.int x :: rest)) := by subst h; exact k
theorem xw_v {x v : Value} (h : x = v) (k : W p l e R s m args below meth c H locs cells slots Q (F0 m pc ls (v :: rest))) : W p l e R s m args below meth c H locs cells slots Q (F0 m pc ls (x :: rest)) := by subst h; exact k
/-- a row of a grid -/
theorem xm_ald (hexec : p.tables.exec = Jvm.exec) (hb : c.code = cc) (hK : va_K D cl tys s) (hP : va_P D cl ws H) (q0 t0 : Nat) {cA : ClassId} {n : Nat} {f : Nat → Option Nat} (ha : ws[q0]? = some (a, .inl (cA, n, .inr (.inr (.inr (.inr f)))))) (ht : tys[t0]? = some (cA, .array .int)) {i : Int32} (hin : vp_in i n) (hdg : decode cc pc = .ok (.aaload, 1))
    (kk : W p l e R s m args below meth c H locs cells slots Q (F0 m (pc + 1) ls (va_rf (f i.toNatClampNeg) :: rest))) : W p l e R s m args below meth c H locs cells slots Q (F0 m pc ls (.int i :: .ref a :: rest)) := by
  have hlt : i.toNatClampNeg < n := Nat.not_le.mp fun q => hin (Or.inr q)
  exact W.aald (v := va_rf (f i.toNatClampNeg)) (ty := .array .int) hexec hb (hP q0 _ ha) ((hK.2 t0 _ ht).1 n (fun j => va_rf (f j))) rfl (fun q => by cases q) (by show ¬ (i < 0 ∨ (arrV _ _ _).slots.size ≤ _); rw [arrV_size]; exact hin) (by show (arrV _ _ _).slots[_]? = _; rw [arrV_read _ _ hlt]) rfl rfl hdg kk
/-- a call's run without what it says of the tables -/
theorem xr_of {mc ms : Nat} {g : JFrame} {Qa : State → Outcome → State → Prop} {free : Addr → Prop} (h : va_Run p l e R s m args below meth c H locs cells slots mc ms g rest Qa free) : CallRun p l e R s m args below meth c H locs cells slots mc ms g rest Qa free := by
  intro T hT X
  obtain ⟨v, st₀, t, T', L, h0, X', hL, e1, -, hq, st⟩ := h T hT X
  exact ⟨v, st₀, t, T', L, h0, X', hL, e1, hq, st⟩
end XB
/-- the links between nest mates, and the arrays' classes, as every method is given them -/
def xN : List (String × Nat × MethodName × String) := [(RX11, 9, yX8_init, RX11), (RX11, 18, yX3_init, RX11), (RX9, 11, yX1_init, RX11), (RX7, 11, yX1_init, RX11), (RX11, 68, yX2_init, RX11), (RX0, 47, yX11_isYear, RX11), (RX3, 22, yX11_isYear, RX11), (RX0, 54, yX6_init, RX11), (RX0, 79, yX11_isClub, RX11), (RX0, 75, yX11_hundredths, RX11), (RX2, 31, yX11_isYear, RX11), (RX1, 30, yX11_hundredths, RX11), (RX2, 41, yX11_isClub, RX11)]
def xE (U : State) : Prop := (∀ q ∈ xN, va_Nw (.methodLinkNest q.1 q.2.1 q.2.2.1 q.2.2.2) U) ∧ va_Nw (.fieldLinkNest RX5 21 RX11 "UNTOLD" "[I" RX11) U ∧ va_AO RX5 U ∧ va_AO RX6 U ∧ xG U
theorem xE.warm {s U : State} (hW : s.WarmedH U.vm) (h : xE s) : xE U := ⟨fun q hq => va_Nw.warmM hW (h.1 q hq), va_Nw.warmF hW h.2.1, va_AO.moved hW.alike h.2.2.1, va_AO.moved hW.alike h.2.2.2.1, xG.moved hW.alike h.2.2.2.2⟩
theorem xE.same {s U : State} (hv : s.vm = U.vm) (h : xE s) : xE U := ⟨fun q hq => va_Nw.same rfl hv (h.1 q hq), va_Nw.same rfl hv h.2.1, va_AO.moved (hv ▸ Vm.Alike.refl s.vm) h.2.2.1, va_AO.moved (hv ▸ Vm.Alike.refl s.vm) h.2.2.2.1, xG.moved (hv ▸ Vm.Alike.refl s.vm) h.2.2.2.2⟩
theorem xE.link {U : State} (h : xE U) (i : Nat) {a : String} {j : Nat} {y : MethodName} {b : String} (hi : xN[i]? = some (a, j, y, b)) : va_Nw (.methodLinkNest a j y b) U := h.1 _ (List.mem_of_getElem? hi)
/-- the table of the laws untold -/
def xf_U (j : Nat) : Int32 := match j with
  | 0 => 1000
  | 1 => 15
  | 2 => 4
  | 4 => 100
  | _ => 0
def xU (tU : Nat) (A : Nat → Prop) (U : State) (H : Heap) : Prop := va_Z RX11 "UNTOLD" "[I" (.ref tU) A U H ∧ va_T .int tU 8 (fun j => .int (xf_U j)) A U H
theorem xU.moved {tU : Nat} {A : Nat → Prop} {u U : State} {H : Heap} (hvm : u.vm.Alike U.vm) (h : xU tU A u H) : xU tU A U H := ⟨va_Z.moved hvm h.1, va_T.moved hvm h.2⟩
theorem xU.kept {tU : Nat} {A : Nat → Prop} {U : State} {H H1 : Heap} (h : xU tU A U H) (hq : ∀ a : Nat, a < H.size → ¬ A a → H1[a]? = H[a]?) : xU tU A U H1 := ⟨va_Z.kept h.1 hq, va_T.kept h.2 hq⟩
