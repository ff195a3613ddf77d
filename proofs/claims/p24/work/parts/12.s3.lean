set_option maxHeartbeats 4000000 in
set_option maxRecDepth 100000 in
theorem tX10_keyR (l : Launch) (E : tE) (X : tX) (A : Nat → Prop) (z : tZ) (I0 : tI) (L0 : tL) (x : Int32) (x_t : Int) (h_x : x.toInt = x_t) (b_x : 0 ≤ x_t ∧ x_t ≤ 7) (y : Int32) (y_t : Int) (h_y : y.toInt = y_t) (b_y : 0 ≤ y_t ∧ y_t ≤ 9) : Met l yX10_keyOf wsX10_keyOf ({ frames := 1, cells := 0, slots := 0, locals := 64 }) (va_Pc [.int x, .int y] (h_P E X A z I0 L0)) (vp_Si (fun r => (0 ≤ r.toInt ∧ r.toInt ≤ 79) ∧ (r.toInt = x_t * 10 + y_t))) 0 0 (fun _ => False) := by
  refine Met.ofW (cc := cX10_keyOf) (maxL := 2) (ret := (some .int)) (by decide) rfl ?_
  intro pr_ ev_ s m args below meth cd_ s₁ B hml hv
  obtain ⟨rfl, hE, hk, hX, hA, hK, hI, hR, hB0⟩ := hv
  have g : h_G h_so h_fk E A z I0 L0 s s.heap s.heap [] := ⟨hK, va_S.rf, hB0⟩
  have hx := B.exec
  have hb := B.bytes
  have hr := B.returns
  have hts := atoms_spec (ws := wsX10_keyOf) B.pre
  have hown : s.vm.findClass RX10 = some m.cls := findClass_of_methodNamed B.named
  have hlocks := B.notSynchronized
  have hl := lv_entry ([.int x, .int y]) (n := 2) (Nat.le_of_ble_eq_true rfl)
  rw [lg_entry_eq]
  generalize (lg_sl ([.int x, .int y]) ++ List.replicate (2 - (lg_sl ([.int x, .int y])).length) Slot.unset).toArray = ls at hl ⊢
  have hl : lv_has ls 2 [(0, .int x), (1, .int y)] := hl
  refine lv_iload_n hx hb dX10_keyOf_0 rfl (lv_at hl 0 rfl) ?_
  refine lv_bipush (v := 10) hx hb dX10_keyOf_1 (by decide) ?_
  refine lv_imul hx hb dX10_keyOf_3 ?_
  refine lv_topi (fun v1 ev1 => ?_)
  have jv1 : v1.toInt = x_t * 10 := xi_mul ev1 h_x (by decide) (by omega) (by omega)
  refine lv_iload_n hx hb dX10_keyOf_4 rfl (lv_at hl 1 rfl) ?_
  refine lv_iadd hx hb dX10_keyOf_5 ?_
  refine lv_topi (fun v2 ev2 => ?_)
  have jv2 : v2.toInt = v1.toInt + y_t := xi_add ev2 rfl h_y (by omega) (by omega)
  exact W.iret (v := v2) hx hb hr (fun t ht hW => ⟨v2, rfl, ⟨⟨(by omega), (by omega)⟩, (by omega)⟩, ht⟩) (fun _ h => by cases h) dX10_keyOf_6
