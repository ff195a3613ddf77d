/-! between two calls -/
theorem h_ix {i c v : Int32} {k : Int} {L : Nat} (h0 : 0 ≤ i.toInt) (h8 : i.toInt + 8 ≤ L) (hL : L ≤ 4096) (e : v = i + c) (hc : c.toInt = k) (hk0 : 0 ≤ k) (hk : k < 8) : vp_in v L := by
  have h := xi_add e rfl hc (by omega) (by omega)
  exact xi_in (by omega) (by omega)
section HZ
variable {p : Program} {l : Launch} {e : Env} {R : Room} {s : State} {m : MethodId} {args : Array Value} {below : List Frame} {meth : Method} {c : Code} {H : Heap} {locs : List Loc} {cells slots : Nat} {Q : State → Prop}
variable {cc : ByteArray} {ls : Array Slot} {rest : List Value}
/-- a number that isn't 0, as a truth value -/
theorem h_nez (hx : p.tables.exec = Jvm.exec) (hb : c.code = cc) {pc : Nat} {x : Int32} (d0 : decode cc pc = .ok (.ifCond .eq 7, 3)) (d1 : decode cc (pc + 3) = .ok (.iconst 1, 1)) (d2 : decode cc (pc + 4) = .ok (.goto 4, 3)) (d3 : decode cc (pc + 7) = .ok (.iconst 0, 1))
    (kk : ∀ v : Int32, v = (if x = 0 then 0 else 1) → (0 ≤ v.toInt ∧ v.toInt ≤ 1) → W p l e R s m args below meth c H locs cells slots Q (F0 m (pc + 8) ls (.int v :: rest))) : W p l e R s m args below meth c H locs cells slots Q (F0 m pc ls (.int x :: rest)) := by
  refine lv_if_eq (tgt := pc + 7) hx hb d0 (by omega) (fun h => ?_) (fun h => ?_)
  · refine lv_iconst (v := 0) hx hb d3 (by decide) ?_
    exact kk 0 (by rw [if_pos h]) ⟨by decide, by decide⟩
  · refine lv_iconst (v := 1) hx hb d1 (by decide) ?_
    refine lv_goto (tgt := pc + 8) hx hb d2 (by omega) ?_
    exact kk 1 (by rw [if_neg h]) ⟨by decide, by decide⟩
end HZ
def h_J2 (z : tZ) (I : tI) (mo : Nat) : Prop := (I mo 30).toInt = 1 → ∀ c : Int, 0 ≤ c → c ≤ 7 → ∃ k : Nat, k < 8 ∧ (I (h_ad z mo 32) k).toInt = c
def h_T (E : tE) (A : Nat → Prop) (s : State) (z : tZ) (I : tI) (L : tL) (H : Heap) (locs : List Loc) (cp mo : Nat) : Prop := h_G h_so h_fk E A z I L s s.heap H locs ∧ h_I z I ∧ h_R z ∧ z.ty cp = 12 ∧ z.ty mo = 13 ∧ h_J1 (I (h_ad z mo 10)) ∧ h_J2 z I mo ∧ h_U z ∧ (z.R (h_ad z cp 2) 0 = some (h_ad z cp 0) ∧ z.R (h_ad z cp 3) 0 = some (h_ad z cp 1) ∧ z.R (h_ad z cp 5) 0 = some (h_ad z cp 3) ∧ z.R (h_ad z cp 5) 1 = some (h_ad z cp 4) ∧ z.R (h_ad z cp 6) 0 = some (h_ad z cp 3)) ∧ (I (h_ad z cp 0) 1 = I mo 1 ∧ I (h_ad z (h_ad z cp 0) 0) = I (h_ad z mo 0)) ∧ (I (h_ad z cp 3) 3 = I mo 12) ∧ (I (h_ad z cp 2) 2 = I mo 8 ∧ I (h_ad z cp 2) 3 = I mo 9) ∧ (h_bk z I (h_ad z (h_ad z cp 1) 1) (h_ad z (h_ad z cp 1) 0) (h_ad z mo 10) (h_ad z mo 11)) ∧ ((I (h_ad z (h_ad z cp 7) 2) (I mo 12).toInt.toNat).toInt = (I mo 31).toInt ∧ ∀ k : Nat, (I mo 12).toInt < (k : Int) → I (h_ad z (h_ad z cp 7) 2) k = 0) ∧ (I (h_ad z cp 7) 1 = I mo 30) ∧ (h_gb z I cp mo)

