def xs_u (z k : Int32) : Int32 := (z.toUInt32 >>> (k.toUInt32 &&& Int32.toUInt32 31)).toInt32
/-- the JDK's own count of bits -/
def xbc (z : Int32) : Int32 :=
  let a := z - (xs_u z 1 &&& 1431655765)
  let b := (a &&& 858993459) + (xs_u a 2 &&& 858993459)
  let c := (b + xs_u b 4) &&& 252645135
  let d := c + xs_u c 8
  let e := d + xs_u d 16
  e &&& 63
theorem xbc_le {c d : Int32} (h1 : 0 ≤ c.toInt) (h2 : c.toInt ≤ 7) (h3 : 0 ≤ d.toInt) (h4 : d.toInt ≤ 7) : (xbc (((0 : Int32) ||| ((1 : Int32) <<< (c &&& 31))) ||| ((1 : Int32) <<< (d &&& 31)))).toInt ≤ 4 := by
  have hc : c = 0 ∨ c = 1 ∨ c = 2 ∨ c = 3 ∨ c = 4 ∨ c = 5 ∨ c = 6 ∨ c = 7 := by
    rcases (show c.toInt = 0 ∨ c.toInt = 1 ∨ c.toInt = 2 ∨ c.toInt = 3 ∨ c.toInt = 4 ∨ c.toInt = 5 ∨ c.toInt = 6 ∨ c.toInt = 7 by omega) with h | h | h | h | h | h | h | h
    · exact Or.inl (xi_k (k := 0) (by decide) h)
    · exact Or.inr (Or.inl (xi_k (k := 1) (by decide) h))
    · exact Or.inr (Or.inr (Or.inl (xi_k (k := 2) (by decide) h)))
    · exact Or.inr (Or.inr (Or.inr (Or.inl (xi_k (k := 3) (by decide) h))))
    · exact Or.inr (Or.inr (Or.inr (Or.inr (Or.inl (xi_k (k := 4) (by decide) h)))))
    · exact Or.inr (Or.inr (Or.inr (Or.inr (Or.inr (Or.inl (xi_k (k := 5) (by decide) h))))))
    · exact Or.inr (Or.inr (Or.inr (Or.inr (Or.inr (Or.inr (Or.inl (xi_k (k := 6) (by decide) h)))))))
    · exact Or.inr (Or.inr (Or.inr (Or.inr (Or.inr (Or.inr (Or.inr (xi_k (k := 7) (by decide) h)))))))
  have hd : d = 0 ∨ d = 1 ∨ d = 2 ∨ d = 3 ∨ d = 4 ∨ d = 5 ∨ d = 6 ∨ d = 7 := by
    rcases (show d.toInt = 0 ∨ d.toInt = 1 ∨ d.toInt = 2 ∨ d.toInt = 3 ∨ d.toInt = 4 ∨ d.toInt = 5 ∨ d.toInt = 6 ∨ d.toInt = 7 by omega) with h | h | h | h | h | h | h | h
    · exact Or.inl (xi_k (k := 0) (by decide) h)
    · exact Or.inr (Or.inl (xi_k (k := 1) (by decide) h))
    · exact Or.inr (Or.inr (Or.inl (xi_k (k := 2) (by decide) h)))
    · exact Or.inr (Or.inr (Or.inr (Or.inl (xi_k (k := 3) (by decide) h))))
    · exact Or.inr (Or.inr (Or.inr (Or.inr (Or.inl (xi_k (k := 4) (by decide) h)))))
    · exact Or.inr (Or.inr (Or.inr (Or.inr (Or.inr (Or.inl (xi_k (k := 5) (by decide) h))))))
    · exact Or.inr (Or.inr (Or.inr (Or.inr (Or.inr (Or.inr (Or.inl (xi_k (k := 6) (by decide) h)))))))
    · exact Or.inr (Or.inr (Or.inr (Or.inr (Or.inr (Or.inr (Or.inr (xi_k (k := 7) (by decide) h)))))))
  rcases hc with rfl | rfl | rfl | rfl | rfl | rfl | rfl | rfl <;> rcases hd with rfl | rfl | rfl | rfl | rfl | rfl | rfl | rfl <;> decide
set_option maxHeartbeats 4000000 in
set_option maxRecDepth 100000 in
theorem rJ6_bc (l : Launch) (dC : Nat → ClassId) (dI : Nat → Nat → Nat) (ws : va_W) (tys : List (ClassId × FieldType))  (z : Int32) (z_t : Int) (h_z : z.toInt = z_t)  : Met l yJ6_bitCount_0f7a4 wsJ6_bitCount_0f7a4 ({ frames := 1, cells := 0, slots := 0, locals := 64 }) (va_Pc [.int z] (xR (dC, dI) tys ws)) (vp_Si (fun r => (r = xbc z))) 0 0 (fun _ => False) := by
  refine Met.ofW (cc := cJ6_bitCount_0f7a4) (maxL := 1) (ret := (some .int)) (by decide) rfl ?_
  intro pr_ ev_ s m args below meth cd_ s₁ B hml hv
  obtain ⟨rfl, hE, hK, hP⟩ := hv
  have hx := B.exec
  have hb := B.bytes
  have hr := B.returns
  have hts := atoms_spec (ws := wsJ6_bitCount_0f7a4) B.pre
  have hown : s.vm.findClass RJ6 = some m.cls := findClass_of_methodNamed B.named
  have hlocks := B.notSynchronized
  have hl := lv_entry ([.int z]) (n := 1) (Nat.le_of_ble_eq_true rfl)
  rw [lg_entry_eq]
  generalize (lg_sl ([.int z]) ++ List.replicate (1 - (lg_sl ([.int z])).length) Slot.unset).toArray = ls at hl ⊢
  have hl : lv_has ls 1 [(0, .int z)] := hl
  have lo_z := xi_lo z
  have hi_z := xi_hi z
  refine lv_iload_n hx hb dJ6_bitCount_0f7a4_0 rfl (lv_at hl 0 rfl) ?_
  refine lv_iload_n hx hb dJ6_bitCount_0f7a4_1 rfl (lv_at hl 0 rfl) ?_
  refine lv_iconst (v := 1) hx hb dJ6_bitCount_0f7a4_2 (by decide) ?_
  refine lv_iushr hx hb dJ6_bitCount_0f7a4_3 rfl ?_
  refine lv_topi (fun v1 ev1 => ?_)
  refine lv_ldcw (v := 1431655765) hx hb hown (hts (.constant RJ6 265 (1431655765)) (by decide +kernel)) dJ6_bitCount_0f7a4_4 ?_
  refine lv_iand hx hb dJ6_bitCount_0f7a4_7 ?_
  refine lv_topi (fun v2 ev2 => ?_)
  refine lv_isub hx hb dJ6_bitCount_0f7a4_8 ?_
  refine lv_topi (fun v3 ev3 => ?_)
  refine lv_istore_n (lv' := [(0, .int v3)]) hx hb dJ6_bitCount_0f7a4_9 rfl hl (by decide) rfl (fun ls hl => ?_)
  refine lv_iload_n hx hb dJ6_bitCount_0f7a4_10 rfl (lv_at hl 0 rfl) ?_
  refine lv_ldcw (v := 858993459) hx hb hown (hts (.constant RJ6 266 (858993459)) (by decide +kernel)) dJ6_bitCount_0f7a4_11 ?_
  refine lv_iand hx hb dJ6_bitCount_0f7a4_14 ?_
  refine lv_topi (fun v4 ev4 => ?_)
  refine lv_iload_n hx hb dJ6_bitCount_0f7a4_15 rfl (lv_at hl 0 rfl) ?_
  refine lv_iconst (v := 2) hx hb dJ6_bitCount_0f7a4_16 (by decide) ?_
  refine lv_iushr hx hb dJ6_bitCount_0f7a4_17 rfl ?_
  refine lv_topi (fun v5 ev5 => ?_)
  refine lv_ldcw (v := 858993459) hx hb hown (hts (.constant RJ6 266 (858993459)) (by decide +kernel)) dJ6_bitCount_0f7a4_18 ?_
  refine lv_iand hx hb dJ6_bitCount_0f7a4_21 ?_
  refine lv_topi (fun v6 ev6 => ?_)
  refine lv_iadd hx hb dJ6_bitCount_0f7a4_22 ?_
  refine lv_topi (fun v7 ev7 => ?_)
  refine lv_istore_n (lv' := [(0, .int v7)]) hx hb dJ6_bitCount_0f7a4_23 rfl hl (by decide) rfl (fun ls hl => ?_)
  refine lv_iload_n hx hb dJ6_bitCount_0f7a4_24 rfl (lv_at hl 0 rfl) ?_
  refine lv_iload_n hx hb dJ6_bitCount_0f7a4_25 rfl (lv_at hl 0 rfl) ?_
  refine lv_iconst (v := 4) hx hb dJ6_bitCount_0f7a4_26 (by decide) ?_
  refine lv_iushr hx hb dJ6_bitCount_0f7a4_27 rfl ?_
  refine lv_topi (fun v8 ev8 => ?_)
  refine lv_iadd hx hb dJ6_bitCount_0f7a4_28 ?_
  refine lv_topi (fun v9 ev9 => ?_)
  refine lv_ldcw (v := 252645135) hx hb hown (hts (.constant RJ6 267 (252645135)) (by decide +kernel)) dJ6_bitCount_0f7a4_29 ?_
  refine lv_iand hx hb dJ6_bitCount_0f7a4_32 ?_
  refine lv_topi (fun v10 ev10 => ?_)
  refine lv_istore_n (lv' := [(0, .int v10)]) hx hb dJ6_bitCount_0f7a4_33 rfl hl (by decide) rfl (fun ls hl => ?_)
  refine lv_iload_n hx hb dJ6_bitCount_0f7a4_34 rfl (lv_at hl 0 rfl) ?_
  refine lv_iload_n hx hb dJ6_bitCount_0f7a4_35 rfl (lv_at hl 0 rfl) ?_
  refine lv_bipush (v := 8) hx hb dJ6_bitCount_0f7a4_36 (by decide) ?_
  refine lv_iushr hx hb dJ6_bitCount_0f7a4_38 rfl ?_
  refine lv_topi (fun v11 ev11 => ?_)
  refine lv_iadd hx hb dJ6_bitCount_0f7a4_39 ?_
  refine lv_topi (fun v12 ev12 => ?_)
  refine lv_istore_n (lv' := [(0, .int v12)]) hx hb dJ6_bitCount_0f7a4_40 rfl hl (by decide) rfl (fun ls hl => ?_)
  refine lv_iload_n hx hb dJ6_bitCount_0f7a4_41 rfl (lv_at hl 0 rfl) ?_
  refine lv_iload_n hx hb dJ6_bitCount_0f7a4_42 rfl (lv_at hl 0 rfl) ?_
  refine lv_bipush (v := 16) hx hb dJ6_bitCount_0f7a4_43 (by decide) ?_
  refine lv_iushr hx hb dJ6_bitCount_0f7a4_45 rfl ?_
  refine lv_topi (fun v13 ev13 => ?_)
  refine lv_iadd hx hb dJ6_bitCount_0f7a4_46 ?_
  refine lv_topi (fun v14 ev14 => ?_)
  refine lv_istore_n (lv' := [(0, .int v14)]) hx hb dJ6_bitCount_0f7a4_47 rfl hl (by decide) rfl (fun ls hl => ?_)
  refine lv_iload_n hx hb dJ6_bitCount_0f7a4_48 rfl (lv_at hl 0 rfl) ?_
  refine lv_bipush (v := 63) hx hb dJ6_bitCount_0f7a4_49 (by decide) ?_
  refine lv_iand hx hb dJ6_bitCount_0f7a4_51 ?_
  refine lv_topi (fun v15 ev15 => ?_)
  exact W.iret (v := v15) hx hb hr (fun t ht hW => ⟨v15, rfl, by first | simp only [xbc, xs_u, ev1, ev2, ev3, ev4, ev5, ev6, ev7, ev8, ev9, ev10, ev11, ev12, ev13, ev14, ev15], ht⟩) (fun _ h => by cases h) dJ6_bitCount_0f7a4_52
set_option maxHeartbeats 4000000 in
set_option maxRecDepth 100000 in
theorem rX9_join (l : Launch) (dC : Nat → ClassId) (dI : Nat → Nat → Nat) (ws : va_W) (tys : List (ClassId × FieldType)) {bk cg td tf th tn to ts tt : Nat}  (p0 : Nat) (e0 : ws[p0]? = some (td, .inr (9, [.ref bk, .ref tn, .ref cg, .int 0, .int 0, .ref tt, .ref th, .ref tf, .ref to, .ref ts]))) (c : Int32) (c_t : Int) (h_c : c.toInt = c_t) (d : Int32) (d_t : Int) (h_d : d.toInt = d_t) (h1 : 0 ≤ c_t) (h2 : c_t ≤ 7) (h3 : 0 ≤ d_t) (h4 : d_t ≤ 7) : Met l yX9_canJoin wsX9_canJoin ({ frames := 2, cells := 0, slots := 0, locals := 128 }) (va_Pc [.ref td, .int c, .int d] (xR (dC, dI) tys ws)) (vp_Si (fun r => (r = 1 ∧ True))) 0 0 (fun _ => False) := by
  refine Met.ofW (cc := cX9_canJoin) (maxL := 3) (ret := (some .boolean)) (by decide) rfl ?_
  intro pr_ ev_ s m args below meth cd_ s₁ B hml hv
  obtain ⟨rfl, hE, hK, hP⟩ := hv
  have hx := B.exec
  have hb := B.bytes
  have hr := B.returns
  have hts := atoms_spec (ws := wsX9_canJoin) B.pre
  have hown : s.vm.findClass RX9 = some m.cls := findClass_of_methodNamed B.named
  have hlocks := B.notSynchronized
  have iX9 : ∀ w ∈ u_ws RX9 TX9 10, w ∈ wsX9_canJoin := by decide +kernel
  have hl := lv_entry ([.ref td, .int c, .int d]) (n := 3) (Nat.le_of_ble_eq_true rfl)
  rw [lg_entry_eq]
  generalize (lg_sl ([.ref td, .int c, .int d]) ++ List.replicate (3 - (lg_sl ([.ref td, .int c, .int d])).length) Slot.unset).toArray = ls at hl ⊢
  have hl : lv_has ls 3 [(0, .ref td), (1, .int c), (2, .int d)] := hl
  have lo_c := xi_lo c
  have hi_c := xi_hi c
  have lo_d := xi_lo d
  have hi_d := xi_hi d
  refine lv_aload_n hx hb dX9_canJoin_0 rfl (lv_at hl 0 rfl) ?_
  refine va_get (D := (dC, dI)) (ci := 9) (v := .int 0) (C := RX9) (T := TX9) (N := 10) hx hb hts iX9 hown hK hP p0 e0 rfl 4 (by decide) (hts (.fieldLink RX9 47 "CapLeague$Trade" "clubBits" "I") (by decide +kernel)) (fun _ h9 => h9) rfl dX9_canJoin_1 ?_
  refine lv_iconst (v := 1) hx hb dX9_canJoin_4 (by decide) ?_
  refine lv_iload_n hx hb dX9_canJoin_5 rfl (lv_at hl 1 rfl) ?_
  refine lv_ishl hx hb dX9_canJoin_6 ?_
  refine lv_topi (fun v1 ev1 => ?_)
  refine lv_ior hx hb dX9_canJoin_7 ?_
  refine lv_topi (fun v2 ev2 => ?_)
  refine lv_iconst (v := 1) hx hb dX9_canJoin_8 (by decide) ?_
  refine lv_iload_n hx hb dX9_canJoin_9 rfl (lv_at hl 2 rfl) ?_
  refine lv_ishl hx hb dX9_canJoin_10 ?_
  refine lv_topi (fun v3 ev3 => ?_)
  refine lv_ior hx hb dX9_canJoin_11 ?_
  refine lv_topi (fun v4 ev4 => ?_)
  refine vp_callSi (W.runS (As := [.int v4]) (rest := []) ⟨hx, hb, hml, hown, hts⟩ (rJ6_bc l dC dI ws tys v4 (v4.toInt) rfl) (va_cwS 1 hts gX9_canJoin_J6_bitCount_0f7a4 rfl rfl rfl (by decide +kernel) ⟨Nat.le_of_ble_eq_true rfl, Nat.le_of_ble_eq_true rfl⟩) ⟨xR_blind _ _ _ _, xR_pre _ hE hK hP⟩ rfl rfl hl.1 rfl (lv_room (Nat.le_of_ble_eq_true rfl)) dX9_canJoin_12 ⟨Nat.le_of_ble_eq_true rfl, Nat.le_of_ble_eq_true rfl⟩) (fun rh5 h5 => ?_)
  have hb4 : rh5.toInt ≤ 4 := by rw [h5, ev4, ev3, ev2, ev1]; exact xbc_le (by omega) (by omega) (by omega) (by omega)
  refine lv_iconst (v := 4) hx hb dX9_canJoin_15 (by decide) ?_
  refine lv_icmp_gt (tgt := 23) hx hb dX9_canJoin_16 (by decide) (fun h => absurd (xi_lt h (by decide) rfl : 4 < rh5.toInt) (by omega)) (fun c6 => ?_)
  have ic6 := (xi_nlt c6 (by decide) rfl : rh5.toInt ≤ 4)
  refine lv_iconst (v := 1) hx hb dX9_canJoin_19 (by decide) ?_
  refine lv_goto (tgt := 24) hx hb dX9_canJoin_20 (by decide) ?_
  exact W.zret (v := 1) hx hb hr (by decide) (fun t ht hW => ⟨1, rfl, by first | exact ⟨by first | rfl | exact xi_k (k := 1) (by decide) (by omega), by first | trivial | omega⟩, ht⟩) (fun _ h => by cases h) dX9_canJoin_24
set_option maxHeartbeats 4000000 in
set_option maxRecDepth 100000 in
theorem wX9_add (l : Launch) (dC : Nat → ClassId) (dI : Nat → Nat → Nat) (td bk tn cg tt th tf to ts : Nat) (kt kh kf ko ks : ClassId)  (sz : Nat)  (q : Int32) (q_t : Int) (h_q : q.toInt = q_t) (b : Int32) (b_t : Int) (h_b : b.toInt = b_t) (gi1 : Int32) (gi1_t : Int) (h_gi1 : gi1.toInt = gi1_t) (gi2 : Int32) (gi2_t : Int) (h_gi2 : gi2.toInt = gi2_t) (k : Int32) (k_t : Int) (h_k : k.toInt = k_t)  : Met l yX9_add wsX9_add ({ frames := 1, cells := 0, slots := 0, locals := 64 }) (va_Pc [.ref td, .int q, .int b, .int gi1, .int gi2, .int k] (xW (dC, dI) [(kt, .boolean), (kh, .int), (kf, .int), (ko, .int), (ks, .int)] [(td, .inr (9, [.ref bk, .ref tn, .ref cg, .int 0, .int 0, .ref tt, .ref th, .ref tf, .ref to, .ref ts])), (tt, .inl (kt, 12, .inl (fun _ => 0))), (th, .inl (kh, 12, .inl (fun _ => 0))), (tf, .inl (kf, 12, .inl (fun _ => 0))), (to, .inl (ko, 12, .inl (fun _ => 0))), (ts, .inl (ks, 12, .inl (fun _ => 0)))] sz)) (va_Qi (fun r (_ : Unit) => (r = 1 ∧ True)) (fun (_ : Unit) _ => True) (va_A [(td, .inr (9, [.ref bk, .ref tn, .ref cg, .int 0, .int 0, .ref tt, .ref th, .ref tf, .ref to, .ref ts])), (tt, .inl (kt, 12, .inl (fun _ => 0))), (th, .inl (kh, 12, .inl (fun _ => 0))), (tf, .inl (kf, 12, .inl (fun _ => 0))), (to, .inl (ko, 12, .inl (fun _ => 0))), (ts, .inl (ks, 12, .inl (fun _ => 0)))] sz)) 0 0 (va_A [(td, .inr (9, [.ref bk, .ref tn, .ref cg, .int 0, .int 0, .ref tt, .ref th, .ref tf, .ref to, .ref ts])), (tt, .inl (kt, 12, .inl (fun _ => 0))), (th, .inl (kh, 12, .inl (fun _ => 0))), (tf, .inl (kf, 12, .inl (fun _ => 0))), (to, .inl (ko, 12, .inl (fun _ => 0))), (ts, .inl (ks, 12, .inl (fun _ => 0)))] sz) := by
  refine Met.ofW (cc := cX9_add) (maxL := 6) (ret := (some .int)) (by decide) rfl ?_
  intro pr_ ev_ s m args below meth cd_ s₁ B hml hv
  obtain ⟨rfl, hE, hsz, hK, hP, hD0⟩ := hv
  have hx := B.exec
  have hb := B.bytes
  have hr := B.returns
  have hts := atoms_spec (ws := wsX9_add) B.pre
  have hown : s.vm.findClass RX9 = some m.cls := findClass_of_methodNamed B.named
  have hlocks := B.notSynchronized
  subst hsz
  have hD := hD0.self (sz := s.heap.size)
  generalize hAe : va_A [(td, .inr (9, [.ref bk, .ref tn, .ref cg, .int 0, .int 0, .ref tt, .ref th, .ref tf, .ref to, .ref ts])), (tt, .inl (kt, 12, .inl (fun _ => 0))), (th, .inl (kh, 12, .inl (fun _ => 0))), (tf, .inl (kf, 12, .inl (fun _ => 0))), (to, .inl (ko, 12, .inl (fun _ => 0))), (ts, .inl (ks, 12, .inl (fun _ => 0)))] s.heap.size = A at hD ⊢
  have hA : ∀ q : Nat, s.heap.size ≤ q → A q := fun q h => by rw [← hAe]; exact Or.inr h
  have hS : va_S A s.heap s.heap [] := va_S.rf
  have iX9 : ∀ w ∈ u_ws RX9 TX9 10, w ∈ wsX9_add := by decide +kernel
  have hl := lv_entry ([.ref td, .int q, .int b, .int gi1, .int gi2, .int k]) (n := 6) (Nat.le_of_ble_eq_true rfl)
  rw [lg_entry_eq]
  generalize (lg_sl ([.ref td, .int q, .int b, .int gi1, .int gi2, .int k]) ++ List.replicate (6 - (lg_sl ([.ref td, .int q, .int b, .int gi1, .int gi2, .int k])).length) Slot.unset).toArray = ls at hl ⊢
  have hl : lv_has ls 6 [(0, .ref td), (1, .int q), (2, .int b), (3, .int gi1), (4, .int gi2), (5, .int k)] := hl
  have lo_q := xi_lo q
  have hi_q := xi_hi q
  have lo_b := xi_lo b
  have hi_b := xi_hi b
  have lo_gi1 := xi_lo gi1
  have hi_gi1 := xi_hi gi1
  have lo_gi2 := xi_lo gi2
  have hi_gi2 := xi_hi gi2
  have lo_k := xi_lo k
  have hi_k := xi_hi k
  refine lv_aload_n hx hb dX9_add_0 rfl (lv_at hl 0 rfl) ?_
  refine va_get (D := (dC, dI)) (ci := 9) (v := .int 0) (C := RX9) (T := TX9) (N := 10) hx hb hts iX9 hown hK hP 0 rfl rfl 3 (by decide) (hts (.fieldLink RX9 43 "CapLeague$Trade" "size" "I") (by decide +kernel)) (fun _ h9 => h9) rfl dX9_add_1 ?_
  refine lv_bipush (v := 12) hx hb dX9_add_4 (by decide) ?_
  refine lv_icmp_lt (tgt := 12) hx hb dX9_add_6 (by decide) (fun _ => ?_) (fun h => absurd (by decide) h)
  refine lv_aload_n hx hb dX9_add_12 rfl (lv_at hl 0 rfl) ?_
  refine va_get (D := (dC, dI)) (ci := 9) (v := .ref th) (C := RX9) (T := TX9) (N := 10) hx hb hts iX9 hown hK hP 0 rfl rfl 6 (by decide) (hts (.fieldLink RX9 22 "CapLeague$Trade" "thing" "[I") (by decide +kernel)) (fun _ h9 => h9) rfl dX9_add_13 ?_
  refine lv_aload_n hx hb dX9_add_16 rfl (lv_at hl 0 rfl) ?_
  refine va_get (D := (dC, dI)) (ci := 9) (v := .int 0) (C := RX9) (T := TX9) (N := 10) hx hb hts iX9 hown hK hP 0 rfl rfl 3 (by decide) (hts (.fieldLink RX9 43 "CapLeague$Trade" "size" "I") (by decide +kernel)) (fun _ h9 => h9) rfl dX9_add_17 ?_
  refine lv_iload_n hx hb dX9_add_20 rfl (lv_at hl 1 rfl) ?_
  refine va_iast (D := (dC, dI)) hx hb hK hP hD hS 2 1 rfl rfl (by unfold vp_in; decide) dX9_add_21 (fun H locs hP hD hS => ?_)
  obtain ⟨f2, ef2⟩ : ∃ g : Nat → Int32, g = upd (fun _ => 0) (0 : Int32).toNatClampNeg (q) := ⟨_, rfl⟩
  replace hP : va_P (dC, dI) vwCl [(td, .inr (9, [.ref bk, .ref tn, .ref cg, .int 0, .int 0, .ref tt, .ref th, .ref tf, .ref to, .ref ts])), (tt, .inl (kt, 12, .inl (fun _ => 0))), (th, .inl (kh, 12, .inl f2)), (tf, .inl (kf, 12, .inl (fun _ => 0))), (to, .inl (ko, 12, .inl (fun _ => 0))), (ts, .inl (ks, 12, .inl (fun _ => 0)))] H := by rw [ef2]; exact hP
  replace hD : va_D A [(td, .inr (9, [.ref bk, .ref tn, .ref cg, .int 0, .int 0, .ref tt, .ref th, .ref tf, .ref to, .ref ts])), (tt, .inl (kt, 12, .inl (fun _ => 0))), (th, .inl (kh, 12, .inl f2)), (tf, .inl (kf, 12, .inl (fun _ => 0))), (to, .inl (ko, 12, .inl (fun _ => 0))), (ts, .inl (ks, 12, .inl (fun _ => 0)))] := by rw [ef2]; exact hD
  clear ef2
  refine lv_aload_n hx hb dX9_add_22 rfl (lv_at hl 0 rfl) ?_
  refine va_get (D := (dC, dI)) (ci := 9) (v := .ref tt) (C := RX9) (T := TX9) (N := 10) hx hb hts iX9 hown hK hP 0 rfl rfl 5 (by decide) (hts (.fieldLink RX9 18 "CapLeague$Trade" "isTurn" "[Z") (by decide +kernel)) (fun _ h9 => h9) rfl dX9_add_23 ?_
  refine lv_aload_n hx hb dX9_add_26 rfl (lv_at hl 0 rfl) ?_
  refine va_get (D := (dC, dI)) (ci := 9) (v := .int 0) (C := RX9) (T := TX9) (N := 10) hx hb hts iX9 hown hK hP 0 rfl rfl 3 (by decide) (hts (.fieldLink RX9 43 "CapLeague$Trade" "size" "I") (by decide +kernel)) (fun _ h9 => h9) rfl dX9_add_27 ?_
  refine lv_iload_n hx hb dX9_add_30 rfl (lv_at hl 2 rfl) ?_
  refine va_zast (D := (dC, dI)) hx hb hK hP hD hS 1 0 rfl rfl (by unfold vp_in; decide) dX9_add_31 (fun H locs hP hD hS => ?_)
  obtain ⟨f3, ef3⟩ : ∃ g : Nat → Int32, g = upd (fun _ => 0) (0 : Int32).toNatClampNeg (vp_nar .boolean b) := ⟨_, rfl⟩
  replace hP : va_P (dC, dI) vwCl [(td, .inr (9, [.ref bk, .ref tn, .ref cg, .int 0, .int 0, .ref tt, .ref th, .ref tf, .ref to, .ref ts])), (tt, .inl (kt, 12, .inl f3)), (th, .inl (kh, 12, .inl f2)), (tf, .inl (kf, 12, .inl (fun _ => 0))), (to, .inl (ko, 12, .inl (fun _ => 0))), (ts, .inl (ks, 12, .inl (fun _ => 0)))] H := by rw [ef3]; exact hP
  replace hD : va_D A [(td, .inr (9, [.ref bk, .ref tn, .ref cg, .int 0, .int 0, .ref tt, .ref th, .ref tf, .ref to, .ref ts])), (tt, .inl (kt, 12, .inl f3)), (th, .inl (kh, 12, .inl f2)), (tf, .inl (kf, 12, .inl (fun _ => 0))), (to, .inl (ko, 12, .inl (fun _ => 0))), (ts, .inl (ks, 12, .inl (fun _ => 0)))] := by rw [ef3]; exact hD
  clear ef3
  refine lv_aload_n hx hb dX9_add_32 rfl (lv_at hl 0 rfl) ?_
  refine va_get (D := (dC, dI)) (ci := 9) (v := .ref tf) (C := RX9) (T := TX9) (N := 10) hx hb hts iX9 hown hK hP 0 rfl rfl 7 (by decide) (hts (.fieldLink RX9 26 "CapLeague$Trade" "from" "[I") (by decide +kernel)) (fun _ h9 => h9) rfl dX9_add_33 ?_
  refine lv_aload_n hx hb dX9_add_36 rfl (lv_at hl 0 rfl) ?_
  refine va_get (D := (dC, dI)) (ci := 9) (v := .int 0) (C := RX9) (T := TX9) (N := 10) hx hb hts iX9 hown hK hP 0 rfl rfl 3 (by decide) (hts (.fieldLink RX9 43 "CapLeague$Trade" "size" "I") (by decide +kernel)) (fun _ h9 => h9) rfl dX9_add_37 ?_
  refine lv_iload_n hx hb dX9_add_40 rfl (lv_at hl 3 rfl) ?_
  refine va_iast (D := (dC, dI)) hx hb hK hP hD hS 3 2 rfl rfl (by unfold vp_in; decide) dX9_add_41 (fun H locs hP hD hS => ?_)
  obtain ⟨f4, ef4⟩ : ∃ g : Nat → Int32, g = upd (fun _ => 0) (0 : Int32).toNatClampNeg (gi1) := ⟨_, rfl⟩
  replace hP : va_P (dC, dI) vwCl [(td, .inr (9, [.ref bk, .ref tn, .ref cg, .int 0, .int 0, .ref tt, .ref th, .ref tf, .ref to, .ref ts])), (tt, .inl (kt, 12, .inl f3)), (th, .inl (kh, 12, .inl f2)), (tf, .inl (kf, 12, .inl f4)), (to, .inl (ko, 12, .inl (fun _ => 0))), (ts, .inl (ks, 12, .inl (fun _ => 0)))] H := by rw [ef4]; exact hP
  replace hD : va_D A [(td, .inr (9, [.ref bk, .ref tn, .ref cg, .int 0, .int 0, .ref tt, .ref th, .ref tf, .ref to, .ref ts])), (tt, .inl (kt, 12, .inl f3)), (th, .inl (kh, 12, .inl f2)), (tf, .inl (kf, 12, .inl f4)), (to, .inl (ko, 12, .inl (fun _ => 0))), (ts, .inl (ks, 12, .inl (fun _ => 0)))] := by rw [ef4]; exact hD
  clear ef4
  refine lv_aload_n hx hb dX9_add_42 rfl (lv_at hl 0 rfl) ?_
  refine va_get (D := (dC, dI)) (ci := 9) (v := .ref to) (C := RX9) (T := TX9) (N := 10) hx hb hts iX9 hown hK hP 0 rfl rfl 8 (by decide) (hts (.fieldLink RX9 29 "CapLeague$Trade" "to" "[I") (by decide +kernel)) (fun _ h9 => h9) rfl dX9_add_43 ?_
  refine lv_aload_n hx hb dX9_add_46 rfl (lv_at hl 0 rfl) ?_
  refine va_get (D := (dC, dI)) (ci := 9) (v := .int 0) (C := RX9) (T := TX9) (N := 10) hx hb hts iX9 hown hK hP 0 rfl rfl 3 (by decide) (hts (.fieldLink RX9 43 "CapLeague$Trade" "size" "I") (by decide +kernel)) (fun _ h9 => h9) rfl dX9_add_47 ?_
  refine lv_iload hx hb dX9_add_50 (lv_at hl 4 rfl) ?_
  refine va_iast (D := (dC, dI)) hx hb hK hP hD hS 4 3 rfl rfl (by unfold vp_in; decide) dX9_add_52 (fun H locs hP hD hS => ?_)
  obtain ⟨f5, ef5⟩ : ∃ g : Nat → Int32, g = upd (fun _ => 0) (0 : Int32).toNatClampNeg (gi2) := ⟨_, rfl⟩
  replace hP : va_P (dC, dI) vwCl [(td, .inr (9, [.ref bk, .ref tn, .ref cg, .int 0, .int 0, .ref tt, .ref th, .ref tf, .ref to, .ref ts])), (tt, .inl (kt, 12, .inl f3)), (th, .inl (kh, 12, .inl f2)), (tf, .inl (kf, 12, .inl f4)), (to, .inl (ko, 12, .inl f5)), (ts, .inl (ks, 12, .inl (fun _ => 0)))] H := by rw [ef5]; exact hP
  replace hD : va_D A [(td, .inr (9, [.ref bk, .ref tn, .ref cg, .int 0, .int 0, .ref tt, .ref th, .ref tf, .ref to, .ref ts])), (tt, .inl (kt, 12, .inl f3)), (th, .inl (kh, 12, .inl f2)), (tf, .inl (kf, 12, .inl f4)), (to, .inl (ko, 12, .inl f5)), (ts, .inl (ks, 12, .inl (fun _ => 0)))] := by rw [ef5]; exact hD
  clear ef5
  refine lv_aload_n hx hb dX9_add_53 rfl (lv_at hl 0 rfl) ?_
  refine va_get (D := (dC, dI)) (ci := 9) (v := .ref ts) (C := RX9) (T := TX9) (N := 10) hx hb hts iX9 hown hK hP 0 rfl rfl 9 (by decide) (hts (.fieldLink RX9 32 "CapLeague$Trade" "shield" "[I") (by decide +kernel)) (fun _ h9 => h9) rfl dX9_add_54 ?_
  refine lv_aload_n hx hb dX9_add_57 rfl (lv_at hl 0 rfl) ?_
  refine va_get (D := (dC, dI)) (ci := 9) (v := .int 0) (C := RX9) (T := TX9) (N := 10) hx hb hts iX9 hown hK hP 0 rfl rfl 3 (by decide) (hts (.fieldLink RX9 43 "CapLeague$Trade" "size" "I") (by decide +kernel)) (fun _ h9 => h9) rfl dX9_add_58 ?_
  refine lv_iload hx hb dX9_add_61 (lv_at hl 5 rfl) ?_
  refine va_iast (D := (dC, dI)) hx hb hK hP hD hS 5 4 rfl rfl (by unfold vp_in; decide) dX9_add_63 (fun H locs hP hD hS => ?_)
  obtain ⟨f6, ef6⟩ : ∃ g : Nat → Int32, g = upd (fun _ => 0) (0 : Int32).toNatClampNeg (k) := ⟨_, rfl⟩
  replace hP : va_P (dC, dI) vwCl [(td, .inr (9, [.ref bk, .ref tn, .ref cg, .int 0, .int 0, .ref tt, .ref th, .ref tf, .ref to, .ref ts])), (tt, .inl (kt, 12, .inl f3)), (th, .inl (kh, 12, .inl f2)), (tf, .inl (kf, 12, .inl f4)), (to, .inl (ko, 12, .inl f5)), (ts, .inl (ks, 12, .inl f6))] H := by rw [ef6]; exact hP
  replace hD : va_D A [(td, .inr (9, [.ref bk, .ref tn, .ref cg, .int 0, .int 0, .ref tt, .ref th, .ref tf, .ref to, .ref ts])), (tt, .inl (kt, 12, .inl f3)), (th, .inl (kh, 12, .inl f2)), (tf, .inl (kf, 12, .inl f4)), (to, .inl (ko, 12, .inl f5)), (ts, .inl (ks, 12, .inl f6))] := by rw [ef6]; exact hD
  clear ef6
  refine lv_aload_n hx hb dX9_add_64 rfl (lv_at hl 0 rfl) ?_
  refine lv_dup hx hb dX9_add_65 rfl ?_
  refine va_get (D := (dC, dI)) (ci := 9) (v := .int 0) (C := RX9) (T := TX9) (N := 10) hx hb hts iX9 hown hK hP 0 rfl rfl 4 (by decide) (hts (.fieldLink RX9 47 "CapLeague$Trade" "clubBits" "I") (by decide +kernel)) (fun _ h9 => h9) rfl dX9_add_66 ?_
  refine lv_iconst (v := 1) hx hb dX9_add_69 (by decide) ?_
  refine lv_iload_n hx hb dX9_add_70 rfl (lv_at hl 3 rfl) ?_
  refine lv_ishl hx hb dX9_add_71 ?_
  refine lv_topi (fun v7 ev7 => ?_)
  clear ev7
  refine lv_iconst (v := 1) hx hb dX9_add_72 (by decide) ?_
  refine lv_iload hx hb dX9_add_73 (lv_at hl 4 rfl) ?_
  refine lv_ishl hx hb dX9_add_75 ?_
  refine lv_topi (fun v8 ev8 => ?_)
  clear ev8
  refine lv_ior hx hb dX9_add_76 ?_
  refine lv_topi (fun v9 ev9 => ?_)
  clear ev9
  refine lv_ior hx hb dX9_add_77 ?_
  refine lv_topi (fun v10 ev10 => ?_)
  clear ev10
  refine va_put (D := (dC, dI)) (ci := 9) (v := .int v10) (ty := .int) (C := RX9) (T := TX9) (N := 10) hx hb hts iX9 tyX9 tyX9_ok nmX9 hown hK hP hD hS 0 rfl rfl 4 (by decide) (hts (.fieldLink RX9 47 "CapLeague$Trade" "clubBits" "I") (by decide +kernel)) (fun _ h9 => h9) rfl (by decide +kernel) rfl rfl (Nat.le_of_ble_eq_true rfl) dX9_add_78 (fun H locs hP hD hS => ?_)
  replace hP : va_P (dC, dI) vwCl [(td, .inr (9, [.ref bk, .ref tn, .ref cg, .int 0, .int v10, .ref tt, .ref th, .ref tf, .ref to, .ref ts])), (tt, .inl (kt, 12, .inl f3)), (th, .inl (kh, 12, .inl f2)), (tf, .inl (kf, 12, .inl f4)), (to, .inl (ko, 12, .inl f5)), (ts, .inl (ks, 12, .inl f6))] H := hP
  replace hD : va_D A [(td, .inr (9, [.ref bk, .ref tn, .ref cg, .int 0, .int v10, .ref tt, .ref th, .ref tf, .ref to, .ref ts])), (tt, .inl (kt, 12, .inl f3)), (th, .inl (kh, 12, .inl f2)), (tf, .inl (kf, 12, .inl f4)), (to, .inl (ko, 12, .inl f5)), (ts, .inl (ks, 12, .inl f6))] := hD
  refine lv_aload_n hx hb dX9_add_81 rfl (lv_at hl 0 rfl) ?_
  refine lv_dup hx hb dX9_add_82 rfl ?_
  refine va_get (D := (dC, dI)) (ci := 9) (v := .int 0) (C := RX9) (T := TX9) (N := 10) hx hb hts iX9 hown hK hP 0 rfl rfl 3 (by decide) (hts (.fieldLink RX9 43 "CapLeague$Trade" "size" "I") (by decide +kernel)) (fun _ h9 => h9) rfl dX9_add_83 ?_
  refine lv_iconst (v := 1) hx hb dX9_add_86 (by decide) ?_
  refine lv_iadd hx hb dX9_add_87 ?_
  refine xw_i (v := 1) (by decide) ?_
  refine va_put (D := (dC, dI)) (ci := 9) (v := .int 1) (ty := .int) (C := RX9) (T := TX9) (N := 10) hx hb hts iX9 tyX9 tyX9_ok nmX9 hown hK hP hD hS 0 rfl rfl 3 (by decide) (hts (.fieldLink RX9 43 "CapLeague$Trade" "size" "I") (by decide +kernel)) (fun _ h9 => h9) rfl (by decide +kernel) rfl rfl (Nat.le_of_ble_eq_true rfl) dX9_add_88 (fun H locs hP hD hS => ?_)
  replace hP : va_P (dC, dI) vwCl [(td, .inr (9, [.ref bk, .ref tn, .ref cg, .int 1, .int v10, .ref tt, .ref th, .ref tf, .ref to, .ref ts])), (tt, .inl (kt, 12, .inl f3)), (th, .inl (kh, 12, .inl f2)), (tf, .inl (kf, 12, .inl f4)), (to, .inl (ko, 12, .inl f5)), (ts, .inl (ks, 12, .inl f6))] H := hP
  replace hD : va_D A [(td, .inr (9, [.ref bk, .ref tn, .ref cg, .int 1, .int v10, .ref tt, .ref th, .ref tf, .ref to, .ref ts])), (tt, .inl (kt, 12, .inl f3)), (th, .inl (kh, 12, .inl f2)), (tf, .inl (kf, 12, .inl f4)), (to, .inl (ko, 12, .inl f5)), (ts, .inl (ks, 12, .inl f6))] := hD
  refine lv_aload_n hx hb dX9_add_91 rfl (lv_at hl 0 rfl) ?_
  refine va_get (D := (dC, dI)) (ci := 9) (v := .int 1) (C := RX9) (T := TX9) (N := 10) hx hb hts iX9 hown hK hP 0 rfl rfl 3 (by decide) (hts (.fieldLink RX9 43 "CapLeague$Trade" "size" "I") (by decide +kernel)) (fun _ h9 => h9) rfl dX9_add_92 ?_
  exact W.iret (v := 1) hx hb hr (fun t ht hW => ⟨⟨1, (), rfl, by first | exact ⟨by first | rfl | exact xi_k (k := 1) (by decide) (by omega), by first | trivial | omega⟩, trivial⟩, hS.F ht⟩) hS.2.2 dX9_add_95
set_option maxHeartbeats 4000000 in
set_option maxRecDepth 100000 in
theorem wX9_addT (l : Launch) (dC : Nat → ClassId) (dI : Nat → Nat → Nat) (td bk tn cg tt th tf to ts : Nat) (kt kh kf ko ks : ClassId)  (sz : Nat)  (q : Int32) (q_t : Int) (h_q : q.toInt = q_t) (gi1 : Int32) (gi1_t : Int) (h_gi1 : gi1.toInt = gi1_t) (gi2 : Int32) (gi2_t : Int) (h_gi2 : gi2.toInt = gi2_t) (k : Int32) (k_t : Int) (h_k : k.toInt = k_t)  : Met l yX9_addTurnMove wsX9_addTurnMove ({ frames := 2, cells := 0, slots := 0, locals := 128 }) (va_Pc [.ref td, .int q, .int gi1, .int gi2, .int k] (xW (dC, dI) [(kt, .boolean), (kh, .int), (kf, .int), (ko, .int), (ks, .int)] [(td, .inr (9, [.ref bk, .ref tn, .ref cg, .int 0, .int 0, .ref tt, .ref th, .ref tf, .ref to, .ref ts])), (tt, .inl (kt, 12, .inl (fun _ => 0))), (th, .inl (kh, 12, .inl (fun _ => 0))), (tf, .inl (kf, 12, .inl (fun _ => 0))), (to, .inl (ko, 12, .inl (fun _ => 0))), (ts, .inl (ks, 12, .inl (fun _ => 0)))] sz)) (va_Qi (fun r (_ : Unit) => (r = 1 ∧ True)) (fun (_ : Unit) _ => True) (va_A [(td, .inr (9, [.ref bk, .ref tn, .ref cg, .int 0, .int 0, .ref tt, .ref th, .ref tf, .ref to, .ref ts])), (tt, .inl (kt, 12, .inl (fun _ => 0))), (th, .inl (kh, 12, .inl (fun _ => 0))), (tf, .inl (kf, 12, .inl (fun _ => 0))), (to, .inl (ko, 12, .inl (fun _ => 0))), (ts, .inl (ks, 12, .inl (fun _ => 0)))] sz)) 0 0 (va_A [(td, .inr (9, [.ref bk, .ref tn, .ref cg, .int 0, .int 0, .ref tt, .ref th, .ref tf, .ref to, .ref ts])), (tt, .inl (kt, 12, .inl (fun _ => 0))), (th, .inl (kh, 12, .inl (fun _ => 0))), (tf, .inl (kf, 12, .inl (fun _ => 0))), (to, .inl (ko, 12, .inl (fun _ => 0))), (ts, .inl (ks, 12, .inl (fun _ => 0)))] sz) := by
  refine Met.ofW (cc := cX9_addTurnMove) (maxL := 5) (ret := (some .int)) (by decide) rfl ?_
  intro pr_ ev_ s m args below meth cd_ s₁ B hml hv
  obtain ⟨rfl, hE, hsz, hK, hP, hD0⟩ := hv
  have hx := B.exec
  have hb := B.bytes
  have hr := B.returns
  have hts := atoms_spec (ws := wsX9_addTurnMove) B.pre
  have hown : s.vm.findClass RX9 = some m.cls := findClass_of_methodNamed B.named
  have hlocks := B.notSynchronized
  subst hsz
  have hD := hD0.self (sz := s.heap.size)
  generalize hAe : va_A [(td, .inr (9, [.ref bk, .ref tn, .ref cg, .int 0, .int 0, .ref tt, .ref th, .ref tf, .ref to, .ref ts])), (tt, .inl (kt, 12, .inl (fun _ => 0))), (th, .inl (kh, 12, .inl (fun _ => 0))), (tf, .inl (kf, 12, .inl (fun _ => 0))), (to, .inl (ko, 12, .inl (fun _ => 0))), (ts, .inl (ks, 12, .inl (fun _ => 0)))] s.heap.size = A at hD ⊢
  have hA : ∀ q : Nat, s.heap.size ≤ q → A q := fun q h => by rw [← hAe]; exact Or.inr h
  have hS : va_S A s.heap s.heap [] := va_S.rf
  have hl := lv_entry ([.ref td, .int q, .int gi1, .int gi2, .int k]) (n := 5) (Nat.le_of_ble_eq_true rfl)
  rw [lg_entry_eq]
  generalize (lg_sl ([.ref td, .int q, .int gi1, .int gi2, .int k]) ++ List.replicate (5 - (lg_sl ([.ref td, .int q, .int gi1, .int gi2, .int k])).length) Slot.unset).toArray = ls at hl ⊢
  have hl : lv_has ls 5 [(0, .ref td), (1, .int q), (2, .int gi1), (3, .int gi2), (4, .int k)] := hl
  have lo_q := xi_lo q
  have hi_q := xi_hi q
  have lo_gi1 := xi_lo gi1
  have hi_gi1 := xi_hi gi1
  have lo_gi2 := xi_lo gi2
  have hi_gi2 := xi_hi gi2
  have lo_k := xi_lo k
  have hi_k := xi_hi k
  refine lv_aload_n hx hb dX9_addTurnMove_0 rfl (lv_at hl 0 rfl) ?_
  refine lv_iload_n hx hb dX9_addTurnMove_1 rfl (lv_at hl 1 rfl) ?_
  refine lv_iconst (v := 1) hx hb dX9_addTurnMove_2 (by decide) ?_
  refine lv_iload_n hx hb dX9_addTurnMove_3 rfl (lv_at hl 2 rfl) ?_
  refine lv_iload_n hx hb dX9_addTurnMove_4 rfl (lv_at hl 3 rfl) ?_
  refine lv_iload hx hb dX9_addTurnMove_5 (lv_at hl 4 rfl) ?_
  have hPc := hP.sub (ws' := [(td, .inr (9, [.ref bk, .ref tn, .ref cg, .int 0, .int 0, .ref tt, .ref th, .ref tf, .ref to, .ref ts])), (tt, .inl (kt, 12, .inl (fun _ => 0))), (th, .inl (kh, 12, .inl (fun _ => 0))), (tf, .inl (kf, 12, .inl (fun _ => 0))), (to, .inl (ko, 12, .inl (fun _ => 0))), (ts, .inl (ks, 12, .inl (fun _ => 0)))]) [0, 1, 2, 3, 4, 5] rfl
  have hDc := hD.sub (ws' := [(td, .inr (9, [.ref bk, .ref tn, .ref cg, .int 0, .int 0, .ref tt, .ref th, .ref tf, .ref to, .ref ts])), (tt, .inl (kt, 12, .inl (fun _ => 0))), (th, .inl (kh, 12, .inl (fun _ => 0))), (tf, .inl (kf, 12, .inl (fun _ => 0))), (to, .inl (ko, 12, .inl (fun _ => 0))), (ts, .inl (ks, 12, .inl (fun _ => 0)))]) [0, 1, 2, 3, 4, 5] (by decide) rfl
  have hKc := hK.sub (tys' := [(kt, .boolean), (kh, .int), (kf, .int), (ko, .int), (ks, .int)]) [0, 1, 2, 3, 4] rfl
  have hFc := va_free (wc := [(td, .inr (9, [.ref bk, .ref tn, .ref cg, .int 0, .int 0, .ref tt, .ref th, .ref tf, .ref to, .ref ts])), (tt, .inl (kt, 12, .inl (fun _ => 0))), (th, .inl (kh, 12, .inl (fun _ => 0))), (tf, .inl (kf, 12, .inl (fun _ => 0))), (to, .inl (ko, 12, .inl (fun _ => 0))), (ts, .inl (ks, 12, .inl (fun _ => 0)))]) hD hS hA [0, 1, 2, 3, 4, 5] rfl
  refine va_calli (va_runV (As := [.int q, .int 1, .int gi1, .int gi2, .int k]) (rest := []) ⟨hx, hb, hml, hown, hts⟩ (wX9_add l dC dI td bk tn cg tt th tf to ts kt kh kf ko ks   _ q (q.toInt) rfl 1 (1) (by decide) gi1 (gi1.toInt) rfl gi2 (gi2.toInt) rfl k (k.toInt) rfl) (cwV 5 hts gX9_addTurnMove_X9_add rfl rfl rfl (by decide +kernel) ⟨Nat.le_of_ble_eq_true rfl, Nat.le_of_ble_eq_true rfl⟩) ⟨xW_blind _ _ _ _ _, va_recv hKc hPc (ci := 9) (q0 := 0) rfl rfl, xW_pre _ hE hKc hPc hDc⟩ rfl rfl hl.1 rfl (lv_room (Nat.le_of_ble_eq_true rfl)) dX9_addTurnMove_7 ⟨Nat.le_of_ble_eq_true rfl, Nat.le_of_ble_eq_true rfl⟩) hS (fun q _ h => hFc q h) hFc (fun rh1 u t H1 locs ht hvm h1 hB hz1 hk1 hS => ?_)
  obtain ⟨hP, hD⟩ := va_join (wr := []) (w1 := []) hP hD [0, 1, 2, 3, 4, 5] [] rfl rfl (by decide) (by decide) hk1 hFc xz_P xz_D
  generalize H1 = H at hP hS ⊢
  replace hP : va_P (dC, dI) vwCl [] H := hP
  replace hD : va_D A [] := hD
  replace hK : va_K (dC, dI) vwCl [(kt, .boolean), (kh, .int), (kf, .int), (ko, .int), (ks, .int)] s := hK
  refine W.cs (cells' := 0) (slots' := 0) rfl rfl ?_
  obtain ⟨rfl, h1⟩ := h1
  exact W.iret (v := 1) hx hb hr (fun t ht hW => ⟨⟨1, (), rfl, by first | exact ⟨by first | rfl | exact xi_k (k := 1) (by decide) (by omega), by first | trivial | omega⟩, trivial⟩, hS.F ht⟩) hS.2.2 dX9_addTurnMove_10
set_option maxHeartbeats 4000000 in
set_option maxRecDepth 100000 in
theorem aX_giveTurn (l : Launch) (dC : Nat → ClassId) (dI : Nat → Nat → Nat) (cp tp lb rd bk tn td rg dr pl de su fi ac ho sh gi wo ra dn od hv cg tt th tf to ts : Nat) (kh ks cb k_tt k_th k_tf k_to k_ts : ClassId) (fh : Nat → Int32) (sz : Nat) (hh : ∀ j : Nat, j < 80 → (fh j).toInt = j / 10) (a : Int32) (a_t : Int) (h_a : a.toInt = a_t) (y : Int32) (y_t : Int) (h_y : y.toInt = y_t) (c : Int32) (c_t : Int) (h_c : c.toInt = c_t) (k : Int32) (k_t : Int) (h_k : k.toInt = k_t)  : Met l yX11_giveTurn wsX11_giveTurn ({ frames := 3, cells := 0, slots := 0, locals := 192 }) (va_Pc [.ref cp, .int a, .int y, .int c, .int k] (xW (dC, dI) [(kh, .int), (ks, .int), (cb, .boolean), (k_tt, .boolean), (k_th, .int), (k_tf, .int), (k_to, .int), (k_ts, .int)] [(cp, .inr (11, [.ref tp, .ref lb, .ref rd, .ref bk, .ref tn, .ref td, .ref rg, .ref dr])), (bk, .inr (0, [.ref lb, .ref pl, .int 0, .int 0, .ref de, .ref su, .ref fi, .int 0, .ref ac])), (tn, .inr (10, [.ref ho, .ref sh, .ref gi, .ref wo])), (ho, .inl (kh, 80, .inl fh)), (sh, .inl (ks, 80, .inl (fun _ => 0))), (dr, .inr (2, [.ref ra, .int 0, .ref dn, .ref od, .ref hv, .long 0, .long 1])), (dn, .inl (cb, 10, .inl (fun _ => 0))), (td, .inr (9, [.ref bk, .ref tn, .ref cg, .int 0, .int 0, .ref tt, .ref th, .ref tf, .ref to, .ref ts])), (tt, .inl (k_tt, 12, .inl (fun _ => 0))), (th, .inl (k_th, 12, .inl (fun _ => 0))), (tf, .inl (k_tf, 12, .inl (fun _ => 0))), (to, .inl (k_to, 12, .inl (fun _ => 0))), (ts, .inl (k_ts, 12, .inl (fun _ => 0)))] sz)) (va_Qi (fun r (_ : Unit) => (r = 1 ∧ (0 ≤ a_t ∧ a_t ≤ 7 ∧ 0 ≤ y_t ∧ y_t ≤ 9 ∧ 0 ≤ c_t ∧ c_t ≤ 7 ∧ 0 ≤ k_t ∧ k_t ≤ 8) ∧ a_t ≠ c_t) ∨ (r = (-4) ∧ (0 ≤ a_t ∧ a_t ≤ 7 ∧ 0 ≤ y_t ∧ y_t ≤ 9 ∧ 0 ≤ c_t ∧ c_t ≤ 7 ∧ 0 ≤ k_t ∧ k_t ≤ 8) ∧ a_t = c_t) ∨ (r = (-2) ∧ ¬ (0 ≤ a_t ∧ a_t ≤ 7 ∧ 0 ≤ y_t ∧ y_t ≤ 9 ∧ 0 ≤ c_t ∧ c_t ≤ 7 ∧ 0 ≤ k_t ∧ k_t ≤ 8))) (fun (_ : Unit) _ => True) (va_A [(cp, .inr (11, [.ref tp, .ref lb, .ref rd, .ref bk, .ref tn, .ref td, .ref rg, .ref dr])), (bk, .inr (0, [.ref lb, .ref pl, .int 0, .int 0, .ref de, .ref su, .ref fi, .int 0, .ref ac])), (tn, .inr (10, [.ref ho, .ref sh, .ref gi, .ref wo])), (ho, .inl (kh, 80, .inl fh)), (sh, .inl (ks, 80, .inl (fun _ => 0))), (dr, .inr (2, [.ref ra, .int 0, .ref dn, .ref od, .ref hv, .long 0, .long 1])), (dn, .inl (cb, 10, .inl (fun _ => 0))), (td, .inr (9, [.ref bk, .ref tn, .ref cg, .int 0, .int 0, .ref tt, .ref th, .ref tf, .ref to, .ref ts])), (tt, .inl (k_tt, 12, .inl (fun _ => 0))), (th, .inl (k_th, 12, .inl (fun _ => 0))), (tf, .inl (k_tf, 12, .inl (fun _ => 0))), (to, .inl (k_to, 12, .inl (fun _ => 0))), (ts, .inl (k_ts, 12, .inl (fun _ => 0)))] sz)) 0 0 (va_A [(cp, .inr (11, [.ref tp, .ref lb, .ref rd, .ref bk, .ref tn, .ref td, .ref rg, .ref dr])), (bk, .inr (0, [.ref lb, .ref pl, .int 0, .int 0, .ref de, .ref su, .ref fi, .int 0, .ref ac])), (tn, .inr (10, [.ref ho, .ref sh, .ref gi, .ref wo])), (ho, .inl (kh, 80, .inl fh)), (sh, .inl (ks, 80, .inl (fun _ => 0))), (dr, .inr (2, [.ref ra, .int 0, .ref dn, .ref od, .ref hv, .long 0, .long 1])), (dn, .inl (cb, 10, .inl (fun _ => 0))), (td, .inr (9, [.ref bk, .ref tn, .ref cg, .int 0, .int 0, .ref tt, .ref th, .ref tf, .ref to, .ref ts])), (tt, .inl (k_tt, 12, .inl (fun _ => 0))), (th, .inl (k_th, 12, .inl (fun _ => 0))), (tf, .inl (k_tf, 12, .inl (fun _ => 0))), (to, .inl (k_to, 12, .inl (fun _ => 0))), (ts, .inl (k_ts, 12, .inl (fun _ => 0)))] sz) := by
  refine Met.ofW (cc := cX11_giveTurn) (maxL := 7) (ret := (some .int)) (by decide) rfl ?_
  intro pr_ ev_ s m args below meth cd_ s₁ B hml hv
  obtain ⟨rfl, hE, hsz, hK, hP, hD0⟩ := hv
  have hx := B.exec
  have hb := B.bytes
  have hr := B.returns
  have hts := atoms_spec (ws := wsX11_giveTurn) B.pre
  have hown : s.vm.findClass RX11 = some m.cls := findClass_of_methodNamed B.named
  have hlocks := B.notSynchronized
  subst hsz
  have hD := hD0.self (sz := s.heap.size)
  generalize hAe : va_A [(cp, .inr (11, [.ref tp, .ref lb, .ref rd, .ref bk, .ref tn, .ref td, .ref rg, .ref dr])), (bk, .inr (0, [.ref lb, .ref pl, .int 0, .int 0, .ref de, .ref su, .ref fi, .int 0, .ref ac])), (tn, .inr (10, [.ref ho, .ref sh, .ref gi, .ref wo])), (ho, .inl (kh, 80, .inl fh)), (sh, .inl (ks, 80, .inl (fun _ => 0))), (dr, .inr (2, [.ref ra, .int 0, .ref dn, .ref od, .ref hv, .long 0, .long 1])), (dn, .inl (cb, 10, .inl (fun _ => 0))), (td, .inr (9, [.ref bk, .ref tn, .ref cg, .int 0, .int 0, .ref tt, .ref th, .ref tf, .ref to, .ref ts])), (tt, .inl (k_tt, 12, .inl (fun _ => 0))), (th, .inl (k_th, 12, .inl (fun _ => 0))), (tf, .inl (k_tf, 12, .inl (fun _ => 0))), (to, .inl (k_to, 12, .inl (fun _ => 0))), (ts, .inl (k_ts, 12, .inl (fun _ => 0)))] s.heap.size = A at hD ⊢
  have hA : ∀ q : Nat, s.heap.size ≤ q → A q := fun q h => by rw [← hAe]; exact Or.inr h
  have hS : va_S A s.heap s.heap [] := va_S.rf
  have iX11 : ∀ w ∈ u_ws RX11 TX11 8, w ∈ wsX11_giveTurn := by decide +kernel
  have iX10 : ∀ w ∈ u_ws RX10 TX10 4, w ∈ wsX11_giveTurn := by decide +kernel
  have hl := lv_entry ([.ref cp, .int a, .int y, .int c, .int k]) (n := 7) (Nat.le_of_ble_eq_true rfl)
  rw [lg_entry_eq]
  generalize (lg_sl ([.ref cp, .int a, .int y, .int c, .int k]) ++ List.replicate (7 - (lg_sl ([.ref cp, .int a, .int y, .int c, .int k])).length) Slot.unset).toArray = ls at hl ⊢
  have hl : lv_has ls 7 [(0, .ref cp), (1, .int a), (2, .int y), (3, .int c), (4, .int k)] := hl
  have lo_a := xi_lo a
  have hi_a := xi_hi a
  have lo_y := xi_lo y
  have hi_y := xi_hi y
  have lo_c := xi_lo c
  have hi_c := xi_hi c
  have lo_k := xi_lo k
  have hi_k := xi_hi k
  refine lv_iload_n hx hb dX11_giveTurn_0 rfl (lv_at hl 1 rfl) ?_
  refine vp_callSi (W.runS (As := [.int a]) (rest := []) ⟨hx, hb, hml, hown, hts⟩ (cX11_isClub_ l dC dI ([(cp, .inr (11, [.ref tp, .ref lb, .ref rd, .ref bk, .ref tn, .ref td, .ref rg, .ref dr])), (bk, .inr (0, [.ref lb, .ref pl, .int 0, .int 0, .ref de, .ref su, .ref fi, .int 0, .ref ac])), (tn, .inr (10, [.ref ho, .ref sh, .ref gi, .ref wo])), (ho, .inl (kh, 80, .inl fh)), (sh, .inl (ks, 80, .inl (fun _ => 0))), (dr, .inr (2, [.ref ra, .int 0, .ref dn, .ref od, .ref hv, .long 0, .long 1])), (dn, .inl (cb, 10, .inl (fun _ => 0))), (td, .inr (9, [.ref bk, .ref tn, .ref cg, .int 0, .int 0, .ref tt, .ref th, .ref tf, .ref to, .ref ts])), (tt, .inl (k_tt, 12, .inl (fun _ => 0))), (th, .inl (k_th, 12, .inl (fun _ => 0))), (tf, .inl (k_tf, 12, .inl (fun _ => 0))), (to, .inl (k_to, 12, .inl (fun _ => 0))), (ts, .inl (k_ts, 12, .inl (fun _ => 0)))]) ([(kh, .int), (ks, .int), (cb, .boolean), (k_tt, .boolean), (k_th, .int), (k_tf, .int), (k_to, .int), (k_ts, .int)]) a (a.toInt) rfl) (va_cwS 1 hts gX11_giveTurn_X11_isClub rfl rfl rfl (by decide +kernel) ⟨Nat.le_of_ble_eq_true rfl, Nat.le_of_ble_eq_true rfl⟩) ⟨xR_blind _ _ _ _, xR_pre _ hE hK hP⟩ rfl rfl hl.1 rfl (lv_room (Nat.le_of_ble_eq_true rfl)) dX11_giveTurn_1 ⟨Nat.le_of_ble_eq_true rfl, Nat.le_of_ble_eq_true rfl⟩) (fun rh1 h1 => ?_)
  rcases h1 with ⟨rfl, h1⟩ | ⟨rfl, h1⟩
  · skip
    refine lv_if_eq (tgt := 37) hx hb dX11_giveTurn_4 (by decide) (fun h => absurd h (by decide)) (fun _ => ?_)
    refine lv_aload_n hx hb dX11_giveTurn_7 rfl (lv_at hl 0 rfl) ?_
    refine va_get (D := (dC, dI)) (ci := 11) (v := .ref bk) (C := RX11) (T := TX11) (N := 8) hx hb hts iX11 hown hK hP 0 rfl rfl 3 (by decide) (hts (.fieldLink RX11 37 "CapLeague" "books" "LCapLeague$Books;") (by decide +kernel)) (fun _ h9 => h9) rfl dX11_giveTurn_8 ?_
    refine lv_iload_n hx hb dX11_giveTurn_11 rfl (lv_at hl 2 rfl) ?_
    refine vp_callSi (W.runV (As := [.int y]) (rest := []) ⟨hx, hb, hml, hown, hts⟩ (cX0_now l dC dI ([(cp, .inr (11, [.ref tp, .ref lb, .ref rd, .ref bk, .ref tn, .ref td, .ref rg, .ref dr])), (bk, .inr (0, [.ref lb, .ref pl, .int 0, .int 0, .ref de, .ref su, .ref fi, .int 0, .ref ac])), (tn, .inr (10, [.ref ho, .ref sh, .ref gi, .ref wo])), (ho, .inl (kh, 80, .inl fh)), (sh, .inl (ks, 80, .inl (fun _ => 0))), (dr, .inr (2, [.ref ra, .int 0, .ref dn, .ref od, .ref hv, .long 0, .long 1])), (dn, .inl (cb, 10, .inl (fun _ => 0))), (td, .inr (9, [.ref bk, .ref tn, .ref cg, .int 0, .int 0, .ref tt, .ref th, .ref tf, .ref to, .ref ts])), (tt, .inl (k_tt, 12, .inl (fun _ => 0))), (th, .inl (k_th, 12, .inl (fun _ => 0))), (tf, .inl (k_tf, 12, .inl (fun _ => 0))), (to, .inl (k_to, 12, .inl (fun _ => 0))), (ts, .inl (k_ts, 12, .inl (fun _ => 0)))]) ([(kh, .int), (ks, .int), (cb, .boolean), (k_tt, .boolean), (k_th, .int), (k_tf, .int), (k_to, .int), (k_ts, .int)]) 1 rfl y (y.toInt) rfl) (cwV 1 hts gX11_giveTurn_X0_isNowOrLater rfl rfl rfl (by decide +kernel) ⟨Nat.le_of_ble_eq_true rfl, Nat.le_of_ble_eq_true rfl⟩) ⟨xR_blind _ _ _ _, va_recv hK hP (ci := 0) (q0 := 1) rfl rfl, xR_pre _ hE hK hP⟩ rfl rfl hl.1 rfl (lv_room (Nat.le_of_ble_eq_true rfl)) dX11_giveTurn_12 ⟨Nat.le_of_ble_eq_true rfl, Nat.le_of_ble_eq_true rfl⟩) (fun rh3 h3 => ?_)
    rcases h3 with ⟨rfl, h3⟩ | ⟨rfl, h3⟩
    · skip
      refine lv_if_eq (tgt := 37) hx hb dX11_giveTurn_15 (by decide) (fun h => absurd h (by decide)) (fun _ => ?_)
      refine lv_iload_n hx hb dX11_giveTurn_18 rfl (lv_at hl 3 rfl) ?_
      refine vp_callSi (W.runS (As := [.int c]) (rest := []) ⟨hx, hb, hml, hown, hts⟩ (cX11_isClub_ l dC dI ([(cp, .inr (11, [.ref tp, .ref lb, .ref rd, .ref bk, .ref tn, .ref td, .ref rg, .ref dr])), (bk, .inr (0, [.ref lb, .ref pl, .int 0, .int 0, .ref de, .ref su, .ref fi, .int 0, .ref ac])), (tn, .inr (10, [.ref ho, .ref sh, .ref gi, .ref wo])), (ho, .inl (kh, 80, .inl fh)), (sh, .inl (ks, 80, .inl (fun _ => 0))), (dr, .inr (2, [.ref ra, .int 0, .ref dn, .ref od, .ref hv, .long 0, .long 1])), (dn, .inl (cb, 10, .inl (fun _ => 0))), (td, .inr (9, [.ref bk, .ref tn, .ref cg, .int 0, .int 0, .ref tt, .ref th, .ref tf, .ref to, .ref ts])), (tt, .inl (k_tt, 12, .inl (fun _ => 0))), (th, .inl (k_th, 12, .inl (fun _ => 0))), (tf, .inl (k_tf, 12, .inl (fun _ => 0))), (to, .inl (k_to, 12, .inl (fun _ => 0))), (ts, .inl (k_ts, 12, .inl (fun _ => 0)))]) ([(kh, .int), (ks, .int), (cb, .boolean), (k_tt, .boolean), (k_th, .int), (k_tf, .int), (k_to, .int), (k_ts, .int)]) c (c.toInt) rfl) (va_cwS 1 hts gX11_giveTurn_X11_isClub rfl rfl rfl (by decide +kernel) ⟨Nat.le_of_ble_eq_true rfl, Nat.le_of_ble_eq_true rfl⟩) ⟨xR_blind _ _ _ _, xR_pre _ hE hK hP⟩ rfl rfl hl.1 rfl (lv_room (Nat.le_of_ble_eq_true rfl)) dX11_giveTurn_19 ⟨Nat.le_of_ble_eq_true rfl, Nat.le_of_ble_eq_true rfl⟩) (fun rh5 h5 => ?_)
      rcases h5 with ⟨rfl, h5⟩ | ⟨rfl, h5⟩
      · skip
        refine lv_if_eq (tgt := 37) hx hb dX11_giveTurn_22 (by decide) (fun h => absurd h (by decide)) (fun _ => ?_)
        refine lv_iload hx hb dX11_giveTurn_25 (lv_at hl 4 rfl) ?_
        refine lv_if_lt (tgt := 37) hx hb dX11_giveTurn_27 (by decide) (fun c7 => ?_) (fun c7 => ?_)
        · have ic7 := (xi_lt c7 rfl (by decide) : k.toInt < 0)
          refine lv_bipush (v := (-2)) hx hb dX11_giveTurn_37 (by decide) ?_
          exact W.iret (v := (-2)) hx hb hr (fun t ht hW => ⟨⟨(-2), (), rfl, by first | exact Or.inl ⟨by first | rfl | exact xi_k (k := 1) (by decide) (by omega), by first | trivial | omega⟩ | exact Or.inr (Or.inl ⟨by first | rfl | exact xi_k (k := (-4)) (by decide) (by omega), by first | trivial | omega⟩) | exact Or.inr (Or.inr (⟨by first | rfl | exact xi_k (k := (-2)) (by decide) (by omega), by first | trivial | omega⟩)), trivial⟩, hS.F ht⟩) hS.2.2 dX11_giveTurn_39
        · have ic7 := (xi_nlt c7 rfl (by decide) : 0 ≤ k.toInt)
          refine lv_iload hx hb dX11_giveTurn_30 (lv_at hl 4 rfl) ?_
          refine lv_bipush (v := 8) hx hb dX11_giveTurn_32 (by decide) ?_
          refine lv_icmp_le (tgt := 40) hx hb dX11_giveTurn_34 (by decide) (fun c8 => ?_) (fun c8 => ?_)
          · have ic8 := (xi_le c8 rfl (by decide) : k.toInt ≤ 8)
            refine lv_iload_n hx hb dX11_giveTurn_40 rfl (lv_at hl 1 rfl) ?_
            refine lv_iload_n hx hb dX11_giveTurn_41 rfl (lv_at hl 2 rfl) ?_
            refine vp_callSi (W.runS (As := [.int a, .int y]) (rest := []) ⟨hx, hb, hml, hown, hts⟩ (rX10_keyOf l dC dI ([(cp, .inr (11, [.ref tp, .ref lb, .ref rd, .ref bk, .ref tn, .ref td, .ref rg, .ref dr])), (bk, .inr (0, [.ref lb, .ref pl, .int 0, .int 0, .ref de, .ref su, .ref fi, .int 0, .ref ac])), (tn, .inr (10, [.ref ho, .ref sh, .ref gi, .ref wo])), (ho, .inl (kh, 80, .inl fh)), (sh, .inl (ks, 80, .inl (fun _ => 0))), (dr, .inr (2, [.ref ra, .int 0, .ref dn, .ref od, .ref hv, .long 0, .long 1])), (dn, .inl (cb, 10, .inl (fun _ => 0))), (td, .inr (9, [.ref bk, .ref tn, .ref cg, .int 0, .int 0, .ref tt, .ref th, .ref tf, .ref to, .ref ts])), (tt, .inl (k_tt, 12, .inl (fun _ => 0))), (th, .inl (k_th, 12, .inl (fun _ => 0))), (tf, .inl (k_tf, 12, .inl (fun _ => 0))), (to, .inl (k_to, 12, .inl (fun _ => 0))), (ts, .inl (k_ts, 12, .inl (fun _ => 0)))]) ([(kh, .int), (ks, .int), (cb, .boolean), (k_tt, .boolean), (k_th, .int), (k_tf, .int), (k_to, .int), (k_ts, .int)]) a (a.toInt) rfl y (y.toInt) rfl (by omega) (by omega) (by omega) (by omega)) (va_cwS 2 hts gX11_giveTurn_X10_keyOf rfl rfl rfl (by decide +kernel) ⟨Nat.le_of_ble_eq_true rfl, Nat.le_of_ble_eq_true rfl⟩) ⟨xR_blind _ _ _ _, xR_pre _ hE hK hP⟩ rfl rfl hl.1 rfl (lv_room (Nat.le_of_ble_eq_true rfl)) dX11_giveTurn_42 ⟨Nat.le_of_ble_eq_true rfl, Nat.le_of_ble_eq_true rfl⟩) (fun rh9 h9 => ?_)
            refine lv_istore (lv' := [(5, .int rh9), (0, .ref cp), (1, .int a), (2, .int y), (3, .int c), (4, .int k)]) hx hb dX11_giveTurn_45 hl (by decide) rfl (fun ls hl => ?_)
            refine lv_aload_n hx hb dX11_giveTurn_47 rfl (lv_at hl 1 rfl) ?_
            refine va_get (D := (dC, dI)) (ci := 11) (v := .ref tn) (C := RX11) (T := TX11) (N := 8) hx hb hts iX11 hown hK hP 0 rfl rfl 4 (by decide) (hts (.fieldLink RX11 44 "CapLeague" "turns" "LCapLeague$Turns;") (by decide +kernel)) (fun _ h9 => h9) rfl dX11_giveTurn_48 ?_
            refine va_get (D := (dC, dI)) (ci := 10) (v := .ref ho) (C := RX10) (T := TX10) (N := 4) hx hb hts iX10 hown hK hP 2 rfl rfl 0 (by decide) (hts (.fieldLink RX11 206 "CapLeague$Turns" "holder" "[I") (by decide +kernel)) (fun _ h9 => h9) rfl dX11_giveTurn_51 ?_
            refine lv_iload hx hb dX11_giveTurn_54 (lv_at hl 0 rfl) ?_
            refine va_iald (D := (dC, dI)) hx hb hK hP 3 0 rfl rfl (xi_in (by omega) (by omega)) dX11_giveTurn_56 ?_
            refine lv_topi (fun v10 ev10 => ?_)
            have jv10 : v10.toInt = rh9.toInt / 10 := by rw [ev10]; exact xh_at hh (by omega) (by omega)
            refine lv_istore (lv' := [(6, .int v10), (5, .int rh9), (0, .ref cp), (1, .int a), (2, .int y), (3, .int c), (4, .int k)]) hx hb dX11_giveTurn_57 hl (by decide) rfl (fun ls hl => ?_)
            refine lv_iload hx hb dX11_giveTurn_59 (lv_at hl 0 rfl) ?_
            refine lv_iload_n hx hb dX11_giveTurn_61 rfl (lv_at hl 5 rfl) ?_
            refine lv_icmp_eq (tgt := 114) hx hb dX11_giveTurn_62 (by decide) (fun c11 => ?_) (fun c11 => ?_)
            · have ic11 := (xi_eq c11 rfl rfl : v10.toInt = c.toInt)
              refine lv_bipush (v := (-4)) hx hb dX11_giveTurn_114 (by decide) ?_
              exact W.iret (v := (-4)) hx hb hr (fun t ht hW => ⟨⟨(-4), (), rfl, by first | exact Or.inl ⟨by first | rfl | exact xi_k (k := 1) (by decide) (by omega), by first | trivial | omega⟩ | exact Or.inr (Or.inl ⟨by first | rfl | exact xi_k (k := (-4)) (by decide) (by omega), by first | trivial | omega⟩) | exact Or.inr (Or.inr (⟨by first | rfl | exact xi_k (k := (-2)) (by decide) (by omega), by first | trivial | omega⟩)), trivial⟩, hS.F ht⟩) hS.2.2 dX11_giveTurn_116
            · have ic11 := (xi_ne c11 rfl rfl : v10.toInt ≠ c.toInt)
              refine lv_aload_n hx hb dX11_giveTurn_65 rfl (lv_at hl 2 rfl) ?_
              refine va_get (D := (dC, dI)) (ci := 11) (v := .ref td) (C := RX11) (T := TX11) (N := 8) hx hb hts iX11 hown hK hP 0 rfl rfl 5 (by decide) (hts (.fieldLink RX11 53 "CapLeague" "bargain" "LCapLeague$Trade;") (by decide +kernel)) (fun _ h9 => h9) rfl dX11_giveTurn_66 ?_
              refine lv_iload hx hb dX11_giveTurn_69 (lv_at hl 1 rfl) ?_
              refine vp_callSi (W.runV (As := [.int rh9]) (rest := []) ⟨hx, hb, hml, hown, hts⟩ (rX9_hasTurn l dC dI ([(cp, .inr (11, [.ref tp, .ref lb, .ref rd, .ref bk, .ref tn, .ref td, .ref rg, .ref dr])), (bk, .inr (0, [.ref lb, .ref pl, .int 0, .int 0, .ref de, .ref su, .ref fi, .int 0, .ref ac])), (tn, .inr (10, [.ref ho, .ref sh, .ref gi, .ref wo])), (ho, .inl (kh, 80, .inl fh)), (sh, .inl (ks, 80, .inl (fun _ => 0))), (dr, .inr (2, [.ref ra, .int 0, .ref dn, .ref od, .ref hv, .long 0, .long 1])), (dn, .inl (cb, 10, .inl (fun _ => 0))), (td, .inr (9, [.ref bk, .ref tn, .ref cg, .int 0, .int 0, .ref tt, .ref th, .ref tf, .ref to, .ref ts])), (tt, .inl (k_tt, 12, .inl (fun _ => 0))), (th, .inl (k_th, 12, .inl (fun _ => 0))), (tf, .inl (k_tf, 12, .inl (fun _ => 0))), (to, .inl (k_to, 12, .inl (fun _ => 0))), (ts, .inl (k_ts, 12, .inl (fun _ => 0)))]) ([(kh, .int), (ks, .int), (cb, .boolean), (k_tt, .boolean), (k_th, .int), (k_tf, .int), (k_to, .int), (k_ts, .int)]) 7 rfl rh9 (rh9.toInt) rfl) (cwV 1 hts gX11_giveTurn_X9_hasTurn rfl rfl rfl (by decide +kernel) ⟨Nat.le_of_ble_eq_true rfl, Nat.le_of_ble_eq_true rfl⟩) ⟨xR_blind _ _ _ _, va_recv hK hP (ci := 9) (q0 := 7) rfl rfl, xR_pre _ hE hK hP⟩ rfl rfl hl.1 rfl (lv_room (Nat.le_of_ble_eq_true rfl)) dX11_giveTurn_71 ⟨Nat.le_of_ble_eq_true rfl, Nat.le_of_ble_eq_true rfl⟩) (fun rh12 h12 => ?_)
              obtain ⟨rfl, h12⟩ := h12
              refine lv_if_ne (tgt := 114) hx hb dX11_giveTurn_74 (by decide) (fun h => absurd (by decide) h) (fun _ => ?_)
              refine lv_aload_n hx hb dX11_giveTurn_77 rfl (lv_at hl 2 rfl) ?_
              refine va_get (D := (dC, dI)) (ci := 11) (v := .ref dr) (C := RX11) (T := TX11) (N := 8) hx hb hts iX11 hown hK hP 0 rfl rfl 7 (by decide) (hts (.fieldLink RX11 69 "CapLeague" "draft" "LCapLeague$Draft;") (by decide +kernel)) (fun _ h9 => h9) rfl dX11_giveTurn_78 ?_
              refine lv_iload_n hx hb dX11_giveTurn_81 rfl (lv_at hl 4 rfl) ?_
              refine vp_callSi (W.runV (As := [.int y]) (rest := []) ⟨hx, hb, hml, hown, hts⟩ (cX2_drawn l dC dI ([(cp, .inr (11, [.ref tp, .ref lb, .ref rd, .ref bk, .ref tn, .ref td, .ref rg, .ref dr])), (bk, .inr (0, [.ref lb, .ref pl, .int 0, .int 0, .ref de, .ref su, .ref fi, .int 0, .ref ac])), (tn, .inr (10, [.ref ho, .ref sh, .ref gi, .ref wo])), (ho, .inl (kh, 80, .inl fh)), (sh, .inl (ks, 80, .inl (fun _ => 0))), (dr, .inr (2, [.ref ra, .int 0, .ref dn, .ref od, .ref hv, .long 0, .long 1])), (dn, .inl (cb, 10, .inl (fun _ => 0))), (td, .inr (9, [.ref bk, .ref tn, .ref cg, .int 0, .int 0, .ref tt, .ref th, .ref tf, .ref to, .ref ts])), (tt, .inl (k_tt, 12, .inl (fun _ => 0))), (th, .inl (k_th, 12, .inl (fun _ => 0))), (tf, .inl (k_tf, 12, .inl (fun _ => 0))), (to, .inl (k_to, 12, .inl (fun _ => 0))), (ts, .inl (k_ts, 12, .inl (fun _ => 0)))]) ([(kh, .int), (ks, .int), (cb, .boolean), (k_tt, .boolean), (k_th, .int), (k_tf, .int), (k_to, .int), (k_ts, .int)]) 5 rfl 6 rfl 2 rfl y (y.toInt) rfl) (cwV 1 hts gX11_giveTurn_X2_isDrawn rfl rfl rfl (by decide +kernel) ⟨Nat.le_of_ble_eq_true rfl, Nat.le_of_ble_eq_true rfl⟩) ⟨xR_blind _ _ _ _, va_recv hK hP (ci := 2) (q0 := 5) rfl rfl, xR_pre _ hE hK hP⟩ rfl rfl hl.1 rfl (lv_room (Nat.le_of_ble_eq_true rfl)) dX11_giveTurn_82 ⟨Nat.le_of_ble_eq_true rfl, Nat.le_of_ble_eq_true rfl⟩) (fun rh14 h14 => ?_)
              obtain ⟨rfl, h14⟩ := h14
              refine lv_if_ne (tgt := 114) hx hb dX11_giveTurn_85 (by decide) (fun h => absurd (by decide) h) (fun _ => ?_)
              refine lv_aload_n hx hb dX11_giveTurn_88 rfl (lv_at hl 2 rfl) ?_
              refine va_get (D := (dC, dI)) (ci := 11) (v := .ref tn) (C := RX11) (T := TX11) (N := 8) hx hb hts iX11 hown hK hP 0 rfl rfl 4 (by decide) (hts (.fieldLink RX11 44 "CapLeague" "turns" "LCapLeague$Turns;") (by decide +kernel)) (fun _ h9 => h9) rfl dX11_giveTurn_89 ?_
              refine va_get (D := (dC, dI)) (ci := 10) (v := .ref sh) (C := RX10) (T := TX10) (N := 4) hx hb hts iX10 hown hK hP 2 rfl rfl 1 (by decide) (hts (.fieldLink RX11 216 "CapLeague$Turns" "shield" "[I") (by decide +kernel)) (fun _ h9 => h9) rfl dX11_giveTurn_92 ?_
              refine lv_iload hx hb dX11_giveTurn_95 (lv_at hl 1 rfl) ?_
              refine va_iald (D := (dC, dI)) hx hb hK hP 4 1 rfl rfl (xi_in (by omega) (by omega)) dX11_giveTurn_97 ?_
              refine xw_i (v := 0) rfl ?_
              refine lv_if_ne (tgt := 114) hx hb dX11_giveTurn_98 (by decide) (fun h => absurd (by decide) h) (fun _ => ?_)
              refine lv_aload_n hx hb dX11_giveTurn_101 rfl (lv_at hl 2 rfl) ?_
              refine va_get (D := (dC, dI)) (ci := 11) (v := .ref td) (C := RX11) (T := TX11) (N := 8) hx hb hts iX11 hown hK hP 0 rfl rfl 5 (by decide) (hts (.fieldLink RX11 53 "CapLeague" "bargain" "LCapLeague$Trade;") (by decide +kernel)) (fun _ h9 => h9) rfl dX11_giveTurn_102 ?_
              refine lv_iload hx hb dX11_giveTurn_105 (lv_at hl 0 rfl) ?_
              refine lv_iload_n hx hb dX11_giveTurn_107 rfl (lv_at hl 5 rfl) ?_
              refine vp_callSi (W.runV (As := [.int v10, .int c]) (rest := []) ⟨hx, hb, hml, hown, hts⟩ (rX9_join l dC dI ([(cp, .inr (11, [.ref tp, .ref lb, .ref rd, .ref bk, .ref tn, .ref td, .ref rg, .ref dr])), (bk, .inr (0, [.ref lb, .ref pl, .int 0, .int 0, .ref de, .ref su, .ref fi, .int 0, .ref ac])), (tn, .inr (10, [.ref ho, .ref sh, .ref gi, .ref wo])), (ho, .inl (kh, 80, .inl fh)), (sh, .inl (ks, 80, .inl (fun _ => 0))), (dr, .inr (2, [.ref ra, .int 0, .ref dn, .ref od, .ref hv, .long 0, .long 1])), (dn, .inl (cb, 10, .inl (fun _ => 0))), (td, .inr (9, [.ref bk, .ref tn, .ref cg, .int 0, .int 0, .ref tt, .ref th, .ref tf, .ref to, .ref ts])), (tt, .inl (k_tt, 12, .inl (fun _ => 0))), (th, .inl (k_th, 12, .inl (fun _ => 0))), (tf, .inl (k_tf, 12, .inl (fun _ => 0))), (to, .inl (k_to, 12, .inl (fun _ => 0))), (ts, .inl (k_ts, 12, .inl (fun _ => 0)))]) ([(kh, .int), (ks, .int), (cb, .boolean), (k_tt, .boolean), (k_th, .int), (k_tf, .int), (k_to, .int), (k_ts, .int)]) 7 rfl v10 (v10.toInt) rfl c (c.toInt) rfl (by omega) (by omega) (by omega) (by omega)) (cwV 2 hts gX11_giveTurn_X9_canJoin rfl rfl rfl (by decide +kernel) ⟨Nat.le_of_ble_eq_true rfl, Nat.le_of_ble_eq_true rfl⟩) ⟨xR_blind _ _ _ _, va_recv hK hP (ci := 9) (q0 := 7) rfl rfl, xR_pre _ hE hK hP⟩ rfl rfl hl.1 rfl (lv_room (Nat.le_of_ble_eq_true rfl)) dX11_giveTurn_108 ⟨Nat.le_of_ble_eq_true rfl, Nat.le_of_ble_eq_true rfl⟩) (fun rh17 h17 => ?_)
              obtain ⟨rfl, h17⟩ := h17
              refine lv_if_ne (tgt := 117) hx hb dX11_giveTurn_111 (by decide) (fun _ => ?_) (fun h => absurd h (by decide))
              refine lv_aload_n hx hb dX11_giveTurn_117 rfl (lv_at hl 2 rfl) ?_
              refine va_get (D := (dC, dI)) (ci := 11) (v := .ref td) (C := RX11) (T := TX11) (N := 8) hx hb hts iX11 hown hK hP 0 rfl rfl 5 (by decide) (hts (.fieldLink RX11 53 "CapLeague" "bargain" "LCapLeague$Trade;") (by decide +kernel)) (fun _ h9 => h9) rfl dX11_giveTurn_118 ?_
              refine lv_iload hx hb dX11_giveTurn_121 (lv_at hl 1 rfl) ?_
              refine lv_iload hx hb dX11_giveTurn_123 (lv_at hl 0 rfl) ?_
              refine lv_iload_n hx hb dX11_giveTurn_125 rfl (lv_at hl 5 rfl) ?_
              refine lv_iload hx hb dX11_giveTurn_126 (lv_at hl 6 rfl) ?_
              have hPc := hP.sub (ws' := [(td, .inr (9, [.ref bk, .ref tn, .ref cg, .int 0, .int 0, .ref tt, .ref th, .ref tf, .ref to, .ref ts])), (tt, .inl (k_tt, 12, .inl (fun _ => 0))), (th, .inl (k_th, 12, .inl (fun _ => 0))), (tf, .inl (k_tf, 12, .inl (fun _ => 0))), (to, .inl (k_to, 12, .inl (fun _ => 0))), (ts, .inl (k_ts, 12, .inl (fun _ => 0)))]) [7, 8, 9, 10, 11, 12] rfl
              have hDc := hD.sub (ws' := [(td, .inr (9, [.ref bk, .ref tn, .ref cg, .int 0, .int 0, .ref tt, .ref th, .ref tf, .ref to, .ref ts])), (tt, .inl (k_tt, 12, .inl (fun _ => 0))), (th, .inl (k_th, 12, .inl (fun _ => 0))), (tf, .inl (k_tf, 12, .inl (fun _ => 0))), (to, .inl (k_to, 12, .inl (fun _ => 0))), (ts, .inl (k_ts, 12, .inl (fun _ => 0)))]) [7, 8, 9, 10, 11, 12] (by decide) rfl
              have hKc := hK.sub (tys' := [(k_tt, .boolean), (k_th, .int), (k_tf, .int), (k_to, .int), (k_ts, .int)]) [3, 4, 5, 6, 7] rfl
              have hFc := va_free (wc := [(td, .inr (9, [.ref bk, .ref tn, .ref cg, .int 0, .int 0, .ref tt, .ref th, .ref tf, .ref to, .ref ts])), (tt, .inl (k_tt, 12, .inl (fun _ => 0))), (th, .inl (k_th, 12, .inl (fun _ => 0))), (tf, .inl (k_tf, 12, .inl (fun _ => 0))), (to, .inl (k_to, 12, .inl (fun _ => 0))), (ts, .inl (k_ts, 12, .inl (fun _ => 0)))]) hD hS hA [7, 8, 9, 10, 11, 12] rfl
              refine va_calli (va_runV (As := [.int rh9, .int v10, .int c, .int k]) (rest := []) ⟨hx, hb, hml, hown, hts⟩ (wX9_addT l dC dI td bk tn cg tt th tf to ts k_tt k_th k_tf k_to k_ts   _ rh9 (rh9.toInt) rfl v10 (v10.toInt) rfl c (c.toInt) rfl k (k.toInt) rfl) (cwV 4 hts gX11_giveTurn_X9_addTurnMove rfl rfl rfl (by decide +kernel) ⟨Nat.le_of_ble_eq_true rfl, Nat.le_of_ble_eq_true rfl⟩) ⟨xW_blind _ _ _ _ _, va_recv hKc hPc (ci := 9) (q0 := 0) rfl rfl, xW_pre _ hE hKc hPc hDc⟩ rfl rfl hl.1 rfl (lv_room (Nat.le_of_ble_eq_true rfl)) dX11_giveTurn_128 ⟨Nat.le_of_ble_eq_true rfl, Nat.le_of_ble_eq_true rfl⟩) hS (fun q _ h => hFc q h) hFc (fun rh19 u t H1 locs ht hvm h19 hB hz1 hk1 hS => ?_)
              obtain ⟨hP, hD⟩ := va_join (wr := [(cp, .inr (11, [.ref tp, .ref lb, .ref rd, .ref bk, .ref tn, .ref td, .ref rg, .ref dr])), (bk, .inr (0, [.ref lb, .ref pl, .int 0, .int 0, .ref de, .ref su, .ref fi, .int 0, .ref ac])), (tn, .inr (10, [.ref ho, .ref sh, .ref gi, .ref wo])), (ho, .inl (kh, 80, .inl fh)), (sh, .inl (ks, 80, .inl (fun _ => 0))), (dr, .inr (2, [.ref ra, .int 0, .ref dn, .ref od, .ref hv, .long 0, .long 1])), (dn, .inl (cb, 10, .inl (fun _ => 0)))]) (w1 := []) hP hD [7, 8, 9, 10, 11, 12] [0, 1, 2, 3, 4, 5, 6] rfl rfl (by decide) (by decide) hk1 hFc xz_P xz_D
              generalize H1 = H at hP hS ⊢
              replace hP : va_P (dC, dI) vwCl [(cp, .inr (11, [.ref tp, .ref lb, .ref rd, .ref bk, .ref tn, .ref td, .ref rg, .ref dr])), (bk, .inr (0, [.ref lb, .ref pl, .int 0, .int 0, .ref de, .ref su, .ref fi, .int 0, .ref ac])), (tn, .inr (10, [.ref ho, .ref sh, .ref gi, .ref wo])), (ho, .inl (kh, 80, .inl fh)), (sh, .inl (ks, 80, .inl (fun _ => 0))), (dr, .inr (2, [.ref ra, .int 0, .ref dn, .ref od, .ref hv, .long 0, .long 1])), (dn, .inl (cb, 10, .inl (fun _ => 0)))] H := hP
              replace hD : va_D A [(cp, .inr (11, [.ref tp, .ref lb, .ref rd, .ref bk, .ref tn, .ref td, .ref rg, .ref dr])), (bk, .inr (0, [.ref lb, .ref pl, .int 0, .int 0, .ref de, .ref su, .ref fi, .int 0, .ref ac])), (tn, .inr (10, [.ref ho, .ref sh, .ref gi, .ref wo])), (ho, .inl (kh, 80, .inl fh)), (sh, .inl (ks, 80, .inl (fun _ => 0))), (dr, .inr (2, [.ref ra, .int 0, .ref dn, .ref od, .ref hv, .long 0, .long 1])), (dn, .inl (cb, 10, .inl (fun _ => 0)))] := hD
              replace hK : va_K (dC, dI) vwCl [(kh, .int), (ks, .int), (cb, .boolean), (k_tt, .boolean), (k_th, .int), (k_tf, .int), (k_to, .int), (k_ts, .int)] s := hK
              refine W.cs (cells' := 0) (slots' := 0) rfl rfl ?_
              obtain ⟨rfl, h19⟩ := h19
              exact W.iret (v := 1) hx hb hr (fun t ht hW => ⟨⟨1, (), rfl, by first | exact Or.inl ⟨by first | rfl | exact xi_k (k := 1) (by decide) (by omega), by first | trivial | omega⟩ | exact Or.inr (Or.inl ⟨by first | rfl | exact xi_k (k := (-4)) (by decide) (by omega), by first | trivial | omega⟩) | exact Or.inr (Or.inr (⟨by first | rfl | exact xi_k (k := (-2)) (by decide) (by omega), by first | trivial | omega⟩)), trivial⟩, hS.F ht⟩) hS.2.2 dX11_giveTurn_131
          · have ic8 := (xi_nle c8 rfl (by decide) : 8 < k.toInt)
            refine lv_bipush (v := (-2)) hx hb dX11_giveTurn_37 (by decide) ?_
            exact W.iret (v := (-2)) hx hb hr (fun t ht hW => ⟨⟨(-2), (), rfl, by first | exact Or.inl ⟨by first | rfl | exact xi_k (k := 1) (by decide) (by omega), by first | trivial | omega⟩ | exact Or.inr (Or.inl ⟨by first | rfl | exact xi_k (k := (-4)) (by decide) (by omega), by first | trivial | omega⟩) | exact Or.inr (Or.inr (⟨by first | rfl | exact xi_k (k := (-2)) (by decide) (by omega), by first | trivial | omega⟩)), trivial⟩, hS.F ht⟩) hS.2.2 dX11_giveTurn_39
      · skip
        refine lv_if_eq (tgt := 37) hx hb dX11_giveTurn_22 (by decide) (fun _ => ?_) (fun h => absurd (by decide) h)
        refine lv_bipush (v := (-2)) hx hb dX11_giveTurn_37 (by decide) ?_
        exact W.iret (v := (-2)) hx hb hr (fun t ht hW => ⟨⟨(-2), (), rfl, by first | exact Or.inl ⟨by first | rfl | exact xi_k (k := 1) (by decide) (by omega), by first | trivial | omega⟩ | exact Or.inr (Or.inl ⟨by first | rfl | exact xi_k (k := (-4)) (by decide) (by omega), by first | trivial | omega⟩) | exact Or.inr (Or.inr (⟨by first | rfl | exact xi_k (k := (-2)) (by decide) (by omega), by first | trivial | omega⟩)), trivial⟩, hS.F ht⟩) hS.2.2 dX11_giveTurn_39
    · skip
      refine lv_if_eq (tgt := 37) hx hb dX11_giveTurn_15 (by decide) (fun _ => ?_) (fun h => absurd (by decide) h)
      refine lv_bipush (v := (-2)) hx hb dX11_giveTurn_37 (by decide) ?_
      exact W.iret (v := (-2)) hx hb hr (fun t ht hW => ⟨⟨(-2), (), rfl, by first | exact Or.inl ⟨by first | rfl | exact xi_k (k := 1) (by decide) (by omega), by first | trivial | omega⟩ | exact Or.inr (Or.inl ⟨by first | rfl | exact xi_k (k := (-4)) (by decide) (by omega), by first | trivial | omega⟩) | exact Or.inr (Or.inr (⟨by first | rfl | exact xi_k (k := (-2)) (by decide) (by omega), by first | trivial | omega⟩)), trivial⟩, hS.F ht⟩) hS.2.2 dX11_giveTurn_39
  · skip
    refine lv_if_eq (tgt := 37) hx hb dX11_giveTurn_4 (by decide) (fun _ => ?_) (fun h => absurd (by decide) h)
    refine lv_bipush (v := (-2)) hx hb dX11_giveTurn_37 (by decide) ?_
    exact W.iret (v := (-2)) hx hb hr (fun t ht hW => ⟨⟨(-2), (), rfl, by first | exact Or.inl ⟨by first | rfl | exact xi_k (k := 1) (by decide) (by omega), by first | trivial | omega⟩ | exact Or.inr (Or.inl ⟨by first | rfl | exact xi_k (k := (-4)) (by decide) (by omega), by first | trivial | omega⟩) | exact Or.inr (Or.inr (⟨by first | rfl | exact xi_k (k := (-2)) (by decide) (by omega), by first | trivial | omega⟩)), trivial⟩, hS.F ht⟩) hS.2.2 dX11_giveTurn_39
