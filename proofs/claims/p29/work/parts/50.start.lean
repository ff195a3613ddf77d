/-! what the law's start gives to every method -/
set_option maxRecDepth 100000 in
theorem xs_N {args : Array Value} {s : State} (hts : ∀ w ∈ lw_tbl, w.before args s = true) : ∀ q ∈ xN, va_Nw (.methodLinkNest q.1 q.2.1 q.2.2.1 q.2.2.2) s := by
  intro q hq
  simp only [xN, List.mem_cons, List.not_mem_nil, or_false] at hq
  rcases hq with rfl | rfl | rfl | rfl | rfl | rfl | rfl | rfl | rfl | rfl | rfl | rfl | rfl <;> exact va_Nw.of rfl (hts _ (by decide +kernel))
set_option maxRecDepth 100000 in
theorem xs_E {args : Array Value} {s : State} (hts : ∀ w ∈ lw_tbl, w.before args s = true) : xE s :=
  ⟨xs_N hts, va_Nw.of rfl (hts _ (by decide +kernel)), va_AO.of (A := args) (hts (.arrayOver (.object RX5)) (by decide +kernel)), va_AO.of (A := args) (hts (.arrayOver (.object RX6)) (by decide +kernel)), xG.of (args := args) (hts (.arrayOver (.array .int)) (by decide +kernel))⟩
set_option maxRecDepth 100000 in
theorem xs_U {args : Array Value} {s : State} (hts : ∀ w ∈ lw_tbl, w.before args s = true) (hgv : (Jvm.Cond.and given_1 narrow_1).before args s = true) {A : Nat → Prop} (hA : ∀ a : Nat, a < s.heap.size → ¬ A a) : ∃ tU : Nat, xU tU A s s.heap := by
  have hs := flat_of_before _ hgv
  obtain ⟨t, h1, h2⟩ := va_Tof (args := args) (tm := .static RX11 "UNTOLD" "[I") (ty := .int) (N := 8) (f := fun j => .int (xf_U j)) (A := A) (by decide) (hs _ (by decide +kernel)) (va_eqt (z := 8) (hs _ (by decide +kernel)))
    (fun j hj => by
      rcases (show j = 0 ∨ j = 1 ∨ j = 2 ∨ j = 3 ∨ j = 4 ∨ j = 5 ∨ j = 6 ∨ j = 7 by omega) with rfl | rfl | rfl | rfl | rfl | rfl | rfl | rfl
      · exact va_eqt (t := .elem (.static RX11 "UNTOLD" "[I") (.int 0)) (z := 1000) (hs _ (by decide +kernel))
      · exact va_eqt (t := .elem (.static RX11 "UNTOLD" "[I") (.int 1)) (z := 15) (hs _ (by decide +kernel))
      · exact va_eqt (t := .elem (.static RX11 "UNTOLD" "[I") (.int 2)) (z := 4) (hs _ (by decide +kernel))
      · exact va_eqt (t := .elem (.static RX11 "UNTOLD" "[I") (.int 3)) (z := 0) (hs _ (by decide +kernel))
      · exact va_eqt (t := .elem (.static RX11 "UNTOLD" "[I") (.int 4)) (z := 100) (hs _ (by decide +kernel))
      · exact va_eqt (t := .elem (.static RX11 "UNTOLD" "[I") (.int 5)) (z := 0) (hs _ (by decide +kernel))
      · exact va_eqt (t := .elem (.static RX11 "UNTOLD" "[I") (.int 6)) (z := 0) (hs _ (by decide +kernel))
      · exact va_eqt (t := .elem (.static RX11 "UNTOLD" "[I") (.int 7)) (z := 0) (hs _ (by decide +kernel))) hA
  exact ⟨t, va_Zref (C := RX11) (n := "UNTOLD") (d := "[I") (hts (.laysStatic RX11 "UNTOLD" "[I") (by decide +kernel)) (hts (.initialized RX11) (by decide +kernel)) h1 hA, h2⟩

