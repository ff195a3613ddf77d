/-! bounds, targets, what a method may change; a method's start and end over the table -/
def h_I (z : tZ) (I : tI) : Prop := ∀ a k : Nat, (h_bd (z.ty a) k).1 ≤ (I a k).toInt ∧ (I a k).toInt ≤ (h_bd (z.ty a) k).2
theorem h_I.rd {z : tZ} {I : tI} (h : h_I z I) (a k : Nat) {t : Nat} (ha : z.ty a = t) {v : Int32} (ev : v = I a k) {lo hi : Int} (hb : h_bd t k = (lo, hi)) : lo ≤ v.toInt ∧ v.toInt ≤ hi := by
  have q := h a k
  rw [ha, hb, ← ev] at q
  exact q
theorem h_I.wr {z : tZ} {I I1 : tI} (h : h_I z I) {a k : Nat} {v : Int32} (e : I1 = h_up I a k v) {t : Nat} (ha : z.ty a = t) {lo hi : Int} (hb : h_bd t k = (lo, hi)) (h1 : lo ≤ v.toInt) (h2 : v.toInt ≤ hi) : h_I z I1 := by
  intro b j
  subst e
  by_cases hba : b = a
  · subst hba
    by_cases hj : j = k
    · subst hj
      rw [h_up_eq, ha, hb]
      exact ⟨h1, h2⟩
    · rw [h_up_at hj]
      exact h b j
  · rw [h_up_ne hba]
    exact h b j
def h_R (z : tZ) : Prop := ∀ (a k t : Nat) (n : Bool), h_rs (z.ty a) k = some (t, n) → k < h_len (h_so (z.ty a)) → (n = true ∧ z.R a k = none) ∨ ∃ b, z.R a k = some b ∧ z.ty b = t
theorem h_R.at {z : tZ} (h : h_R z) (a k : Nat) {t t' : Nat} (ha : z.ty a = t) (hb : h_rs t k = some (t', false)) (hk : k < h_len (h_so t)) : ∃ b, z.R a k = some b ∧ z.ty b = t' := by
  rcases h a k t' false (by rw [ha]; exact hb) (by rw [ha]; exact hk) with ⟨q, -⟩ | q
  · cases q
  · exact q
theorem h_R.nl {z : tZ} (h : h_R z) (a k : Nat) {t t' : Nat} {n : Bool} (ha : z.ty a = t) (hb : h_rs t k = some (t', n)) (hk : k < h_len (h_so t)) : z.R a k = none ∨ ∃ b, z.R a k = some b ∧ z.ty b = t' := by
  rcases h a k t' n (by rw [ha]; exact hb) (by rw [ha]; exact hk) with ⟨-, q⟩ | q
  · exact Or.inl q
  · exact Or.inr q
def h_m (M : List (Nat × Nat)) (t k : Nat) : Bool := M.any (fun q => q.1 == t && (q.2 == 999 || q.2 == k))
def h_F (M : List (Nat × Nat)) (z : tZ) (I I1 : tI) : Prop := ∀ a k : Nat, h_m M (z.ty a) k = false → I1 a k = I a k
theorem h_F.rf {M : List (Nat × Nat)} {z : tZ} {I : tI} : h_F M z I I := fun _ _ _ => rfl
theorem h_F.at {M : List (Nat × Nat)} {z : tZ} {I I1 : tI} (h : h_F M z I I1) {a k t : Nat} (ha : z.ty a = t) (hm : h_m M t k = false) : I1 a k = I a k := h a k (by rw [ha]; exact hm)
theorem h_F.wr {M : List (Nat × Nat)} {z : tZ} {I I1 I2 : tI} (h : h_F M z I I1) {a k : Nat} {v : Int32} (e : I2 = h_up I1 a k v) {t : Nat} (ha : z.ty a = t) (hm : h_m M t k = true) : h_F M z I I2 := by
  intro b j hb
  rw [← h b j hb, e]
  by_cases hba : b = a
  · subst hba
    by_cases hj : j = k
    · subst hj
      rw [ha, hm] at hb
      cases hb
    · rw [h_up_at hj]
  · rw [h_up_ne hba]
theorem h_m_sub {M M2 : List (Nat × Nat)} (h : M2.all (fun q => M.contains q) = true) {t k : Nat} (hm : h_m M t k = false) : h_m M2 t k = false := by
  rw [Bool.eq_false_iff] at hm ⊢
  intro h2
  apply hm
  unfold h_m at h2 ⊢
  rw [List.any_eq_true] at h2 ⊢
  obtain ⟨q, hq, h3⟩ := h2
  rw [List.all_eq_true] at h
  exact ⟨q, List.contains_iff_mem.mp (h q hq), h3⟩
theorem h_F.call {M M2 : List (Nat × Nat)} {z : tZ} {I I1 I2 : tI} (h : h_F M z I I1) (h2 : h_F M2 z I1 I2) (hs : M2.all (fun q => M.contains q) = true) : h_F M z I I2 := fun a k hm => (h2 a k (h_m_sub hs hm)).trans (h a k hm)
/-- reading past a write -/
theorem h_n0 {I I1 : tI} {a k : Nat} {v : Int32} (e : I1 = h_up I a k v) : I1 a k = v := by rw [e, h_up_eq]
theorem h_n1 {z : tZ} {I I1 : tI} {a b k j : Nat} {v : Int32} (e : I1 = h_up I b j v) {t t' : Nat} (ha : z.ty a = t) (hb : z.ty b = t') (hn : t ≠ t') : I1 a k = I a k := by
  rw [e, h_up_ne]
  intro h
  subst h
  exact hn (ha.symm.trans hb)
theorem h_n2 {I I1 : tI} {a b k j : Nat} {v : Int32} (e : I1 = h_up I b j v) (hn : k ≠ j) : I1 a k = I a k := by
  rw [e]
  by_cases h : a = b
  · subst h
    rw [h_up_at hn]
  · rw [h_up_ne h]
/-- the tables that stand outside -/
def tX : Type := Nat × Nat × Nat × Option Nat × (Nat → Nat) × (Nat → Nat)
def tX.tU (x : tX) : Nat := x.1
def tX.tL (x : tX) : Nat := x.2.1
def tX.tM (x : tX) : Nat := x.2.2.1
def tX.tF (x : tX) : Option Nat := x.2.2.2.1
def tX.adK (x : tX) : Nat → Nat := x.2.2.2.2.1
def tX.adV (x : tX) : Nat → Nat := x.2.2.2.2.2
def h_len10 : List Nat := [3, 6, 5, 5, 5, 4, 3, 4, 0, 43]
def h_byt10 : List (List Int32) := [[99, 97, 112], [114, 111, 115, 116, 101, 114], [121, 101, 97, 114, 115], [115, 112, 97, 114, 101], [109, 97, 116, 99, 104], [104, 117, 114, 116], [116, 97, 120], [108, 111, 116, 115], [], [99, 97, 112, 32, 114, 111, 115, 116, 101, 114, 32, 121, 101, 97, 114, 115, 32, 115, 112, 97, 114, 101, 32, 109, 97, 116, 99, 104, 32, 104, 117, 114, 116, 32, 116, 97, 120, 32, 108, 111, 116, 115, 32]]
def hf_L (j : Nat) : Int32 := match j with
  | 0 => 1
  | 1 => 1
  | 2 => 1
  | 8 => 1
  | _ => 0
def hf_M (j : Nat) : Int32 := match j with
  | 0 => 50000
  | 1 => 15
  | 2 => 5
  | 3 => 5000
  | 4 => 300
  | 5 => 5000
  | 6 => 100
  | 7 => 300
  | 8 => 20
  | _ => 0
def h_S (X : tX) (A : Nat → Prop) (U : State) (H : Heap) : Prop := xU X.tU A U H ∧ (va_Z RX11 "LEAST" "[I" (.ref X.tL) A U H ∧ va_T .int X.tL 9 (fun j => .int (hf_L j)) A U H) ∧ (va_Z RX11 "MOST" "[I" (.ref X.tM) A U H ∧ va_T .int X.tM 9 (fun j => .int (hf_M j)) A U H) ∧ va_Z "java/lang/String" "COMPACT_STRINGS" "Z" (.int 1) A U H ∧ va_Z "jdk/internal/util/Preconditions" "SIOOBE_FORMATTER" "Ljava/util/function/BiFunction;" (va_rf X.tF) A U H ∧ vk_S 10 h_len10 h_byt10 X.adK X.adV A U H
theorem h_S.moved {X : tX} {A : Nat → Prop} {u U : State} {H : Heap} (hvm : u.vm.Alike U.vm) (h : h_S X A u H) : h_S X A U H := ⟨xU.moved hvm h.1, ⟨va_Z.moved hvm h.2.1.1, va_T.moved hvm h.2.1.2⟩, ⟨va_Z.moved hvm h.2.2.1.1, va_T.moved hvm h.2.2.1.2⟩, va_Z.moved hvm h.2.2.2.1, va_Z.moved hvm h.2.2.2.2.1, vk_S.moved hvm h.2.2.2.2.2⟩
theorem h_S.kept {X : tX} {A : Nat → Prop} {U : State} {H H1 : Heap} (h : h_S X A U H) (hq : ∀ a : Nat, a < H.size → ¬ A a → H1[a]? = H[a]?) : h_S X A U H1 := ⟨xU.kept h.1 hq, ⟨va_Z.kept h.2.1.1 hq, va_T.kept h.2.1.2 hq⟩, ⟨va_Z.kept h.2.2.1.1 hq, va_T.kept h.2.2.1.2 hq⟩, va_Z.kept h.2.2.2.1 hq, va_Z.kept h.2.2.2.2.1 hq, vk_S.kept h.2.2.2.2.2 hq⟩
/-- the links of the literals -/
def h_str : List (String × Nat × String) := [(RX4, 126, "cap"), (RX4, 128, "roster"), (RX4, 130, "years"), (RX4, 132, "spare"), (RX4, 134, "match"), (RX4, 136, "hurt"), (RX4, 138, "tax"), (RX4, 140, "lots"), (RX4, 142, ""), (RX12, 125, "cap roster years spare match hurt tax lots ")]
theorem h_str_0 : h_str[0]? = some (RX4, 126, "cap") := rfl
theorem h_str_1 : h_str[1]? = some (RX4, 128, "roster") := rfl
theorem h_str_2 : h_str[2]? = some (RX4, 130, "years") := rfl
theorem h_str_3 : h_str[3]? = some (RX4, 132, "spare") := rfl
theorem h_str_4 : h_str[4]? = some (RX4, 134, "match") := rfl
theorem h_str_5 : h_str[5]? = some (RX4, 136, "hurt") := rfl
theorem h_str_6 : h_str[6]? = some (RX4, 138, "tax") := rfl
theorem h_str_7 : h_str[7]? = some (RX4, 140, "lots") := rfl
theorem h_str_8 : h_str[8]? = some (RX4, 142, "") := rfl
theorem h_str_9 : h_str[9]? = some (RX12, 125, "cap roster years spare match hurt tax lots ") := rfl
def h_Kr (X : tX) (U : State) : Prop := (∀ (i : Nat) (q : String × Nat × String), h_str[i]? = some q → vk_R q.1 q.2.1 q.2.2 (X.adK i) U) ∧ va_Nw (.fieldLinkNest RX4 77 RX11 "LEAST" "[I" RX11) U ∧ va_Nw (.fieldLinkNest RX4 81 RX11 "MOST" "[I" RX11) U
theorem h_Kr.warm {X : tX} {s U : State} (hW : s.WarmedH U.vm) (h : h_Kr X s) : h_Kr X U := ⟨fun i q hq => (h.1 i q hq).warm hW, va_Nw.warmF hW h.2.1, va_Nw.warmF hW h.2.2⟩
theorem h_Kr.same {X : tX} {u U : State} (hv : U.vm = u.vm) (h : h_Kr X u) : h_Kr X U := ⟨fun i q hq => (h.1 i q hq).same hv, va_Nw.same rfl hv.symm h.2.1, va_Nw.same rfl hv.symm h.2.2⟩
def h_B (E : tE) (A : Nat → Prop) (z : tZ) (I : tI) (L : tL) (t : State) : Prop := ∃ ws : va_W, va_P E.D vwCl ws t.heap ∧ va_D A ws ∧ h_W h_so h_fk E z I L ws
def h_P (E : tE) (X : tX) (A : Nat → Prop) (z : tZ) (I : tI) (L : tL) (U : State) : Prop := xE U ∧ h_Kr X U ∧ h_S X A U U.heap ∧ (∀ q, U.heap.size ≤ q → A q) ∧ va_K E.D vwCl (h_tys E) U ∧ h_I z I ∧ h_R z ∧ h_B E A z I L U
theorem h_blind (av : List Value) (E : tE) (X : tX) (A : Nat → Prop) (z : tZ) (I : tI) (L : tL) : FrameBlind (va_Pc av (h_P E X A z I L)) := fun a U g mk q => ⟨q.1, xE.same rfl q.2.1, h_Kr.same rfl q.2.2.1, h_S.moved (u := U) (U := U.calling g mk a) (Vm.Alike.refl U.vm) q.2.2.2.1, q.2.2.2.2.1, va_K.moved (u := U) (U := U.calling g mk a) (Vm.Alike.refl U.vm) q.2.2.2.2.2.1, q.2.2.2.2.2.2⟩
theorem h_pre {s : State} {H0 H : Heap} {locs : List Loc} {E : tE} {X : tX} {A : Nat → Prop} {z : tZ} {I : tI} {L : tL} (av : List Value) (hE : xE s) (hk : h_Kr X s) (hX : h_S X A s H0) (hA : ∀ q, H0.size ≤ q → A q) (hI : h_I z I) (hR : h_R z) (g : h_G h_so h_fk E A z I L s H0 H locs) : ∀ U : State, U.heap = H → s.WarmedH U.vm → va_Pc av (h_P E X A z I L) av.toArray U := fun U hU hW => by
  obtain ⟨hK, hS, hB⟩ := g
  refine ⟨rfl, hE.warm hW, hk.warm hW, ?_, ?_, va_K.moved hW.alike hK, hI, hR, ?_⟩
  · rw [hU]
    exact (hX.kept (fun a h1 h2 => hS.2.1 a h1 h2)).moved hW.alike
  · rw [hU]
    exact fun q hq => hA q (Nat.le_trans hS.1 hq)
  · unfold h_B
    rw [hU]
    exact hB
theorem h_ret {s t : State} {H0 H : Heap} {locs : List Loc} {E : tE} {A : Nat → Prop} {z : tZ} {I : tI} {L : tL} (g : h_G h_so h_fk E A z I L s H0 H locs) (ht : t.heap = H) : h_B E A z I L t := by
  unfold h_B
  rw [ht]
  exact g.2.2
theorem h_after {s t : State} {H0 H H1 : Heap} {locs locs1 : List Loc} {E : tE} {A : Nat → Prop} {z z1 : tZ} {I I1 : tI} {L L1 : tL} (g : h_G h_so h_fk E A z I L s H0 H locs) (hB : h_B E A z1 I1 L1 t) (ht : t.heap = H1) (hS : va_S A H0 H1 locs1) : h_G h_so h_fk E A z1 I1 L1 s H0 H1 locs1 := by
  unfold h_B at hB
  rw [ht] at hB
  exact ⟨g.1, hS, hB⟩
theorem h_recv {s : State} {H0 H : Heap} {locs : List Loc} {E : tE} {A : Nat → Prop} {z : tZ} {I : tI} {L : tL} (g : h_G h_so h_fk E A z I L s H0 H locs) {a t ci N : Nat} {q : vw_C} (ha : z.ty a = t) (h0 : t ≠ 0) (hso : h_so t = .inl (ci, N)) (hc : vwCl[ci]? = some q) : ∃ cell : Cell, H[a]? = some cell ∧ cell.vm.isStatics = false ∧ s.vm.findClass q.1 = some cell.cls := by
  obtain ⟨hK, hS, ws, hP, hD, hW⟩ := g
  obtain ⟨q0, hq⟩ := hW.at (a := a) (by rw [ha]; exact h0) (e := .inr (ci, (List.range N).map (h_fv (h_fk ci) z I L a))) (by unfold h_cell; rw [ha, hso])
  exact va_recv hK hP hc hq
/-- the top value under another name -/
theorem h_bool {x : Int32} (h0 : 0 ≤ x.toInt) (h1 : x.toInt ≤ 1) : x = 0 ∨ x = 1 := by
  rcases (show x.toInt = 0 ∨ x.toInt = 1 by omega) with h | h
  · exact Or.inl (xi_of (by rw [h]; decide))
  · exact Or.inr (xi_of (by rw [h]; decide))
theorem h_nb {v : Int32} (h0 : 0 ≤ v.toInt) (h1 : v.toInt ≤ 1) : narrow .boolean (.int v) = .int v ∧ fits .boolean (.int v) = true := by
  rcases h_bool h0 h1 with rfl | rfl <;> exact ⟨by decide, by decide⟩
theorem h_nz {v : Int32} (h0 : 0 ≤ v.toInt) (h1 : v.toInt ≤ 1) : vp_nar .boolean v = v := by
  rcases h_bool h0 h1 with rfl | rfl <;> decide
theorem h_ny (x : Int32) : -128 ≤ (vp_nar .byte x).toInt ∧ (vp_nar .byte x).toInt ≤ 127 := by
  have h : vp_nar .byte x = x.toInt8.toInt32 := rfl
  rw [h, Int8.toInt_toInt32]
  have h1 := Int8.le_toInt x.toInt8
  have h2 := Int8.toInt_lt x.toInt8
  omega
theorem h_k {x y : Int32} {k : Int} (hx : x.toInt = k) (hy : y.toInt = k) : x = y := xi_of (hx.trans hy.symm)
theorem h_ne0 {y : Int32} (h : y.toInt ≠ 0) : ¬ y = 0 := fun q => h (by rw [q]; decide)
theorem h_rem {x y v : Int32} (e : v = x - x / y * y) (hx : 0 ≤ x.toInt) (hy : 0 < y.toInt) : 0 ≤ v.toInt ∧ v.toInt < y.toInt := by
  have h1 := xi_hi x
  have h2 : 0 ≤ x.toInt / y.toInt := Int.ediv_nonneg hx (by omega)
  have h3 : x.toInt / y.toInt ≤ x.toInt := Int.ediv_le_self _ hx
  have h4 : (x / y).toInt = x.toInt / y.toInt := by
    rw [Int32.toInt_div, Int.tdiv_eq_ediv_of_nonneg hx]
    exact Int.bmod_eq_of_le (by omega) (by omega)
  have h5 : x.toInt / y.toInt * y.toInt ≤ x.toInt := Int.ediv_mul_le _ (by omega)
  have h6 : 0 ≤ x.toInt / y.toInt * y.toInt := Int.mul_nonneg h2 (by omega)
  have h7 : (x / y * y).toInt = x.toInt / y.toInt * y.toInt := by
    rw [Int32.toInt_mul, h4]
    exact Int.bmod_eq_of_le (by omega) (by omega)
  have h8 : v.toInt = x.toInt - x.toInt / y.toInt * y.toInt := by
    rw [e, Int32.toInt_sub, h7]
    exact Int.bmod_eq_of_le (by omega) (by omega)
  have h9 := Int.emod_nonneg x.toInt (show y.toInt ≠ 0 by omega)
  have h10 := Int.emod_lt_of_pos x.toInt hy
  have h11 := Int.emod_def x.toInt y.toInt
  have h12 := Int.mul_comm y.toInt (x.toInt / y.toInt)
  omega
theorem h_lt {i : Int32} {n : Nat} (h : vp_in i n) : i.toNatClampNeg < n := Nat.not_le.mp fun q => h (Or.inr q)
theorem h_lne0 {y : Int64} (h : y.toInt ≠ 0) : ¬ y = 0 := fun q => h (by rw [q]; decide)
theorem h_andn {x v : Int32} (k : Nat) (hk : k < 2147483648) (e : v = x &&& Int32.ofNat k) : 0 ≤ v.toInt ∧ v.toInt ≤ k := by
  subst e
  have h : (x &&& Int32.ofNat k).toBitVec = x.toBitVec &&& BitVec.ofNat 32 k := rfl
  have h0 : (BitVec.ofNat 32 k).toNat = k := by
    rw [BitVec.toNat_ofNat]
    exact Nat.mod_eq_of_lt (by omega)
  have h3 : x.toBitVec.toNat &&& k ≤ k := Nat.and_le_right
  have h4 : (x.toBitVec &&& BitVec.ofNat 32 k).toNat = x.toBitVec.toNat &&& k := by rw [BitVec.toNat_and, h0]
  have h2 : (x &&& Int32.ofNat k).toInt = ((x.toBitVec &&& BitVec.ofNat 32 k).toNat : Int) := by
    show (x &&& Int32.ofNat k).toBitVec.toInt = _
    rw [h, BitVec.toInt_eq_toNat_of_lt]
    omega
  rw [h2, h4]
  omega
theorem h_max {x y v : Int32} {a b : Int} (e : v = if x < y then y else x) (hx : x.toInt = a) (hy : y.toInt = b) : a ≤ v.toInt ∧ b ≤ v.toInt ∧ (v.toInt = a ∨ v.toInt = b) := by
  by_cases h : x < y
  · rw [if_pos h] at e
    have := xi_lt h hx hy
    rw [e, hy]
    omega
  · rw [if_neg h] at e
    have := xi_nlt h hx hy
    rw [e, hx]
    omega
theorem xl_le {x y : Int64} (h : lg_cmp x y ≤ 0) : x.toInt ≤ y.toInt := by
  refine Int.not_lt.mp (fun q => ?_)
  have h1 := (lg_cmp_gt x y).mpr (Int64.lt_iff_toInt_lt.mpr q)
  have h2 := Int32.lt_iff_toInt_lt.mp h1
  have h3 := Int32.le_iff_toInt_le.mp h
  omega
theorem xl_nle {x y : Int64} (h : ¬ lg_cmp x y ≤ 0) : y.toInt < x.toInt := by
  refine Int64.lt_iff_toInt_lt.mp ((lg_cmp_gt x y).mp ?_)
  rw [Int32.lt_iff_toInt_lt]
  rw [Int32.le_iff_toInt_le] at h
  omega
theorem xl_eq {x y : Int64} (h : lg_cmp x y = 0) : x.toInt = y.toInt := by
  have h1 : ¬ x.toInt < y.toInt := fun q => by
    have h2 := Int32.lt_iff_toInt_lt.mp ((lg_cmp_lt x y).mpr (Int64.lt_iff_toInt_lt.mpr q))
    rw [h] at h2
    omega
  have h3 : ¬ y.toInt < x.toInt := fun q => by
    have h2 := Int32.lt_iff_toInt_lt.mp ((lg_cmp_gt x y).mpr (Int64.lt_iff_toInt_lt.mpr q))
    rw [h] at h2
    omega
  omega
theorem xl_ne {x y : Int64} (h : ¬ lg_cmp x y = 0) : x.toInt ≠ y.toInt := by
  have h0 : (lg_cmp x y).toInt ≠ (0 : Int32).toInt := fun q => h (Int32.toInt_inj.mp q)
  intro e
  by_cases h1 : lg_cmp x y < 0
  · have := Int64.lt_iff_toInt_lt.mp ((lg_cmp_lt x y).mp h1)
    omega
  · by_cases h2 : 0 < lg_cmp x y
    · have := Int64.lt_iff_toInt_lt.mp ((lg_cmp_gt x y).mp h2)
      omega
    · rw [Int32.lt_iff_toInt_lt] at h1 h2
      omega
/-- a whole row is written anew -/
def h_row (I : tI) (a : Nat) (f : Nat → Int32) : tI := fun b => if b = a then f else I b
theorem h_I.row {z : tZ} {I I1 : tI} (h : h_I z I) {a : Nat} {f : Nat → Int32} (e : I1 = h_row I a f) {t : Nat} (ha : z.ty a = t) {lo hi : Int} (hb : ∀ k, h_bd t k = (lo, hi)) (hf : ∀ k, lo ≤ (f k).toInt ∧ (f k).toInt ≤ hi) : h_I z I1 := by
  intro b j
  subst e
  unfold h_row
  by_cases hba : b = a
  · subst hba
    rw [if_pos rfl, ha, hb]
    exact hf j
  · rw [if_neg hba]
    exact h b j
theorem h_F.row {M : List (Nat × Nat)} {z : tZ} {I I1 I2 : tI} (h : h_F M z I I1) {a : Nat} {f : Nat → Int32} (e : I2 = h_row I1 a f) {t : Nat} (ha : z.ty a = t) (hm : ∀ k, h_m M t k = true) : h_F M z I I2 := by
  intro b j hb
  rw [← h b j hb, e]
  unfold h_row
  by_cases hba : b = a
  · subst hba
    rw [ha, hm] at hb
    cases hb
  · rw [if_neg hba]
theorem h_nr {z : tZ} {I I1 : tI} {a b k : Nat} {f : Nat → Int32} (e : I1 = h_row I b f) {t t' : Nat} (ha : z.ty a = t) (hb : z.ty b = t') (hn : t ≠ t') : I1 a k = I a k := by
  rw [e]
  unfold h_row
  rw [if_neg]
  intro h
  subst h
  exact hn (ha.symm.trans hb)
section HC
variable {p : Program} {l : Launch} {e : Env} {R : Room} {s : State} {m : MethodId} {args : Array Value} {below : List Frame} {meth : Method} {c : Code} {H : Heap} {locs : List Loc} {cells slots : Nat} {Q : State → Prop}
variable {cc : ByteArray} {pc : Nat} {ls : Array Slot} {rest : List Value} {A : Nat → Prop} {a : Nat} {H0 : Heap} {E : tE} {z : tZ} {I : tI} {L : tL}
theorem h_copy (hexec : p.tables.exec = Jvm.exec) (hb : c.code = cc) (hml : c.maxLocals = ls.size) {own : String} {index : Nat} (hown : s.vm.findClass own = some m.cls) (hlink : (Cond.methodLink own index arraycopyName).before args s = true) (hnat : (Cond.native arraycopyName).before args s = true) (hstat : (Cond.static arraycopyName).before args s = true) (hini : (Cond.initialized "java/lang/System").before args s = true)
    (g : h_G h_so h_fk E A z I L s H0 H locs) {a0 t0 n0 t n1 : Nat} (ha0 : z.ty a0 = t0) (h00 : t0 ≠ 0) (hs0 : h_so t0 = .inr (.int, n0)) (ha : z.ty a = t) (h0 : t ≠ 0) (hso : h_so t = .inr (.int, n1))
    {sp dp n : Int32} (h1 : ¬ sp < 0) (h2 : ¬ dp < 0) (h3 : ¬ n < 0) (h4 : sp.toNatClampNeg + n.toNatClampNeg ≤ n0) (h5 : dp.toNatClampNeg + n.toNatClampNeg ≤ n1)
    (hframes : 1 ≤ R.frames) (hlocals : (rest.map fun v => v.category).sum + (nativeFrameWords "java/lang/System" "arraycopy" 5 + 11) ≤ R.locals) (hdg : decode cc pc = .ok (.invokestatic index, 3))
    (kk : ∀ (I1 : tI) (H : Heap) (locs : List Loc), I1 = h_row I a (va_cpy (I a0) (I a) sp.toNatClampNeg dp.toNatClampNeg n.toNatClampNeg) → h_G h_so h_fk E A z I1 L s H0 H locs → W p l e R s m args below meth c H locs cells slots Q (F0 m (pc + 3) ls rest)) : W p l e R s m args below meth c H locs cells slots Q (F0 m pc ls (.int n :: .int dp :: .ref a :: .int sp :: .ref a0 :: rest)) := by
  obtain ⟨hK, hS, ws, hP, hD, hW⟩ := g
  obtain ⟨q0, hq0⟩ := hW.at (a := a0) (by rw [ha0]; exact h00) (e := .inl (E.ci, n0, .inl (I a0))) (by unfold h_cell; rw [ha0, hs0])
  obtain ⟨q1, hq1⟩ := hW.at (a := a) (by rw [ha]; exact h0) (e := .inl (E.ci, n1, .inl (I a))) (by unfold h_cell; rw [ha, hso])
  refine va_copyi hexec hb hml hown hlink hnat hstat hini hK hP hD hS q0 q1 0 0 hq0 hq1 rfl rfl rfl h1 h2 h3 h4 h5 (fun _ _ => rfl) hframes hlocals hdg (fun H1 locs1 hP1 hD1 hS1 => ?_)
  refine kk _ H1 locs1 rfl ⟨hK, hS1, _, hP1, hD1, hW.set (z1 := z) (I1 := h_row I a (va_cpy (I a0) (I a) sp.toNatClampNeg dp.toNatClampNeg n.toNatClampNeg)) (L1 := L) hD hq1 rfl (fun b hb => h_cell_ne rfl (by unfold h_row; rw [if_neg hb]) rfl rfl) ?_⟩
  unfold h_cell
  rw [ha, hso]
  simp [h_row]
theorem h_copyU {X : tX} (hexec : p.tables.exec = Jvm.exec) (hb : c.code = cc) (hml : c.maxLocals = ls.size) {own : String} {index : Nat} (hown : s.vm.findClass own = some m.cls) (hlink : (Cond.methodLink own index arraycopyName).before args s = true) (hnat : (Cond.native arraycopyName).before args s = true) (hstat : (Cond.static arraycopyName).before args s = true) (hini : (Cond.initialized "java/lang/System").before args s = true)
    (g : h_G h_so h_fk E A z I L s s.heap H locs) (hX : h_S X A s s.heap) {t n1 : Nat} (ha : z.ty a = t) (h0 : t ≠ 0) (hso : h_so t = .inr (.int, n1)) (h8 : 8 ≤ n1)
    (hframes : 1 ≤ R.frames) (hlocals : (rest.map fun v => v.category).sum + (nativeFrameWords "java/lang/System" "arraycopy" 5 + 11) ≤ R.locals) (hdg : decode cc pc = .ok (.invokestatic index, 3))
    (kk : ∀ (I1 : tI) (H : Heap) (locs : List Loc), I1 = h_row I a (va_cpy xf_U (I a) 0 0 8) → h_G h_so h_fk E A z I1 L s s.heap H locs → W p l e R s m args below meth c H locs cells slots Q (F0 m (pc + 3) ls rest)) : W p l e R s m args below meth c H locs cells slots Q (F0 m pc ls (.int 8 :: .int 0 :: .ref a :: .int 0 :: .ref X.tU :: rest)) := by
  obtain ⟨hK, hS, ws, hP, hD, hW⟩ := g
  obtain ⟨q1, hq1⟩ := hW.at (a := a) (by rw [ha]; exact h0) (e := .inl (E.ci, n1, .inl (I a))) (by unfold h_cell; rw [ha, hso])
  refine xu_copy hexec hb hml hown hlink hnat hstat hini hK hP hD hS hX.1 q1 0 hq1 rfl h8 hframes hlocals hdg (fun H1 locs1 hP1 hD1 hS1 => ?_)
  refine kk _ H1 locs1 rfl ⟨hK, hS1, _, hP1, hD1, hW.set (z1 := z) (I1 := h_row I a (va_cpy xf_U (I a) 0 0 8)) (L1 := L) hD hq1 rfl (fun b hb => h_cell_ne rfl (by unfold h_row; rw [if_neg hb]) rfl rfl) ?_⟩
  unfold h_cell
  rw [ha, hso]
  simp [h_row]
end HC
theorem h_nc {v : Int32} (h0 : 0 ≤ v.toInt) (h1 : v.toInt ≤ 255) : narrow .char (.int v) = .int v := by
  obtain ⟨n, hn⟩ : ∃ n : Nat, v.toInt = n := ⟨v.toInt.toNat, by omega⟩
  have e : v = nI n := xi_of (by rw [hn, nI_toInt (by omega)])
  subst e
  have hn2 : n < 256 := by omega
  have : ∀ k : Nat, k < 256 → narrow .char (.int (nI k)) = .int (nI k) := by decide +kernel
  exact this n hn2
theorem h_anyb (v : Int32) : -2147483648 ≤ v.toInt ∧ v.toInt ≤ 2147483647 := ⟨xi_lo v, Int.le_of_lt_add_one (xi_hi v)⟩
theorem h_slen : ∀ i : Nat, h_len10.getD i 0 ≤ 43 := by
  intro i
  by_cases h : i < 10
  · exact (by decide +kernel : ∀ k, k < 10 → h_len10.getD k 0 ≤ 43) i h
  · rw [List.getD_eq_getElem?_getD, List.getElem?_eq_none (by simpa [h_len10] using h)]
    exact Nat.zero_le _
theorem h_slenI {i : Nat} {v : Int32} (e : v = Int32.ofNat (h_len10.getD i 0)) : v.toInt = (h_len10.getD i 0 : Int) := by
  rw [e]
  have := h_slen i
  exact nI_toInt (by omega)
theorem h_i2c {x v : Int32} (e : v = (x.toUInt32 % 65536).toInt32) (h0 : 0 ≤ x.toInt) (h1 : x.toInt ≤ 255) : v.toInt = x.toInt := by
  obtain ⟨n, hn⟩ : ∃ n : Nat, x.toInt = n := ⟨x.toInt.toNat, by omega⟩
  have e2 : x = nI n := xi_of (by rw [hn, nI_toInt (by omega)])
  subst e2
  have hn2 : n < 256 := by omega
  have : ∀ k : Nat, k < 256 → ((nI k).toUInt32 % 65536).toInt32 = nI k := by decide +kernel
  rw [e, this n hn2]
theorem h_shr0 (x : Int32) : x >>> ((0 : Int32) &&& 31) = x := by
  have h : ((0 : Int32) &&& 31) = 0 := by decide
  rw [h]
  apply Int32.toBitVec_inj.mp
  simp

