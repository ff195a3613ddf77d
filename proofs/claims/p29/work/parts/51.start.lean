/-! the literals and tables at the law's entry -/
def h_tm (i : Nat) : Term := match i with
  | 0 => .string RX4 126
  | 1 => .string RX4 128
  | 2 => .string RX4 130
  | 3 => .string RX4 132
  | 4 => .string RX4 134
  | 5 => .string RX4 136
  | 6 => .string RX4 138
  | 7 => .string RX4 140
  | 8 => .string RX4 142
  | _ => .string RX12 125
set_option maxRecDepth 100000 in
set_option maxHeartbeats 4000000 in
theorem hs_ex {args : Array Value} {s : State} (hgv : (Jvm.Cond.and given_1 narrow_1).before args s = true) : ∀ i : Nat, i < 10 → (Cond.exactly (h_tm i) "java/lang/String").before args s = true := by
  intro i hi
  rcases (show i = 0 ∨ i = 1 ∨ i = 2 ∨ i = 3 ∨ i = 4 ∨ i = 5 ∨ i = 6 ∨ i = 7 ∨ i = 8 ∨ i = 9 by omega) with rfl | rfl | rfl | rfl | rfl | rfl | rfl | rfl | rfl | rfl
  · exact flat_of_before _ hgv (Cond.exactly (.string RX4 126) "java/lang/String") (by decide +kernel)
  · exact flat_of_before _ hgv (Cond.exactly (.string RX4 128) "java/lang/String") (by decide +kernel)
  · exact flat_of_before _ hgv (Cond.exactly (.string RX4 130) "java/lang/String") (by decide +kernel)
  · exact flat_of_before _ hgv (Cond.exactly (.string RX4 132) "java/lang/String") (by decide +kernel)
  · exact flat_of_before _ hgv (Cond.exactly (.string RX4 134) "java/lang/String") (by decide +kernel)
  · exact flat_of_before _ hgv (Cond.exactly (.string RX4 136) "java/lang/String") (by decide +kernel)
  · exact flat_of_before _ hgv (Cond.exactly (.string RX4 138) "java/lang/String") (by decide +kernel)
  · exact flat_of_before _ hgv (Cond.exactly (.string RX4 140) "java/lang/String") (by decide +kernel)
  · exact flat_of_before _ hgv (Cond.exactly (.string RX4 142) "java/lang/String") (by decide +kernel)
  · exact flat_of_before _ hgv (Cond.exactly (.string RX12 125) "java/lang/String") (by decide +kernel)

set_option maxRecDepth 100000 in
set_option maxHeartbeats 4000000 in
theorem hs_co {args : Array Value} {s : State} (hgv : (Jvm.Cond.and given_1 narrow_1).before args s = true) : ∀ i : Nat, i < 10 → (Cond.eq (.field (h_tm i) "java/lang/String" "coder" "B") (.int 0)).before args s = true := by
  intro i hi
  rcases (show i = 0 ∨ i = 1 ∨ i = 2 ∨ i = 3 ∨ i = 4 ∨ i = 5 ∨ i = 6 ∨ i = 7 ∨ i = 8 ∨ i = 9 by omega) with rfl | rfl | rfl | rfl | rfl | rfl | rfl | rfl | rfl | rfl
  · exact flat_of_before _ hgv (Cond.eq (.field (.string RX4 126) "java/lang/String" "coder" "B") (.int 0)) (by decide +kernel)
  · exact flat_of_before _ hgv (Cond.eq (.field (.string RX4 128) "java/lang/String" "coder" "B") (.int 0)) (by decide +kernel)
  · exact flat_of_before _ hgv (Cond.eq (.field (.string RX4 130) "java/lang/String" "coder" "B") (.int 0)) (by decide +kernel)
  · exact flat_of_before _ hgv (Cond.eq (.field (.string RX4 132) "java/lang/String" "coder" "B") (.int 0)) (by decide +kernel)
  · exact flat_of_before _ hgv (Cond.eq (.field (.string RX4 134) "java/lang/String" "coder" "B") (.int 0)) (by decide +kernel)
  · exact flat_of_before _ hgv (Cond.eq (.field (.string RX4 136) "java/lang/String" "coder" "B") (.int 0)) (by decide +kernel)
  · exact flat_of_before _ hgv (Cond.eq (.field (.string RX4 138) "java/lang/String" "coder" "B") (.int 0)) (by decide +kernel)
  · exact flat_of_before _ hgv (Cond.eq (.field (.string RX4 140) "java/lang/String" "coder" "B") (.int 0)) (by decide +kernel)
  · exact flat_of_before _ hgv (Cond.eq (.field (.string RX4 142) "java/lang/String" "coder" "B") (.int 0)) (by decide +kernel)
  · exact flat_of_before _ hgv (Cond.eq (.field (.string RX12 125) "java/lang/String" "coder" "B") (.int 0)) (by decide +kernel)

set_option maxRecDepth 100000 in
set_option maxHeartbeats 4000000 in
theorem hs_ar {args : Array Value} {s : State} (hgv : (Jvm.Cond.and given_1 narrow_1).before args s = true) : ∀ i : Nat, i < 10 → (Cond.arrayOf (.field (h_tm i) "java/lang/String" "value" "[B") .byte).before args s = true := by
  intro i hi
  rcases (show i = 0 ∨ i = 1 ∨ i = 2 ∨ i = 3 ∨ i = 4 ∨ i = 5 ∨ i = 6 ∨ i = 7 ∨ i = 8 ∨ i = 9 by omega) with rfl | rfl | rfl | rfl | rfl | rfl | rfl | rfl | rfl | rfl
  · exact flat_of_before _ hgv (Cond.arrayOf (.field (.string RX4 126) "java/lang/String" "value" "[B") .byte) (by decide +kernel)
  · exact flat_of_before _ hgv (Cond.arrayOf (.field (.string RX4 128) "java/lang/String" "value" "[B") .byte) (by decide +kernel)
  · exact flat_of_before _ hgv (Cond.arrayOf (.field (.string RX4 130) "java/lang/String" "value" "[B") .byte) (by decide +kernel)
  · exact flat_of_before _ hgv (Cond.arrayOf (.field (.string RX4 132) "java/lang/String" "value" "[B") .byte) (by decide +kernel)
  · exact flat_of_before _ hgv (Cond.arrayOf (.field (.string RX4 134) "java/lang/String" "value" "[B") .byte) (by decide +kernel)
  · exact flat_of_before _ hgv (Cond.arrayOf (.field (.string RX4 136) "java/lang/String" "value" "[B") .byte) (by decide +kernel)
  · exact flat_of_before _ hgv (Cond.arrayOf (.field (.string RX4 138) "java/lang/String" "value" "[B") .byte) (by decide +kernel)
  · exact flat_of_before _ hgv (Cond.arrayOf (.field (.string RX4 140) "java/lang/String" "value" "[B") .byte) (by decide +kernel)
  · exact flat_of_before _ hgv (Cond.arrayOf (.field (.string RX4 142) "java/lang/String" "value" "[B") .byte) (by decide +kernel)
  · exact flat_of_before _ hgv (Cond.arrayOf (.field (.string RX12 125) "java/lang/String" "value" "[B") .byte) (by decide +kernel)

set_option maxRecDepth 100000 in
set_option maxHeartbeats 4000000 in
theorem hs_le {args : Array Value} {s : State} (hgv : (Jvm.Cond.and given_1 narrow_1).before args s = true) : ∀ i : Nat, i < 10 → (Cond.eq (.length (.field (h_tm i) "java/lang/String" "value" "[B")) (.int (Int32.ofNat (h_len10.getD i 0)))).before args s = true := by
  intro i hi
  rcases (show i = 0 ∨ i = 1 ∨ i = 2 ∨ i = 3 ∨ i = 4 ∨ i = 5 ∨ i = 6 ∨ i = 7 ∨ i = 8 ∨ i = 9 by omega) with rfl | rfl | rfl | rfl | rfl | rfl | rfl | rfl | rfl | rfl
  · exact flat_of_before _ hgv (Cond.eq (.length (.field (.string RX4 126) "java/lang/String" "value" "[B")) (.int 3)) (by decide +kernel)
  · exact flat_of_before _ hgv (Cond.eq (.length (.field (.string RX4 128) "java/lang/String" "value" "[B")) (.int 6)) (by decide +kernel)
  · exact flat_of_before _ hgv (Cond.eq (.length (.field (.string RX4 130) "java/lang/String" "value" "[B")) (.int 5)) (by decide +kernel)
  · exact flat_of_before _ hgv (Cond.eq (.length (.field (.string RX4 132) "java/lang/String" "value" "[B")) (.int 5)) (by decide +kernel)
  · exact flat_of_before _ hgv (Cond.eq (.length (.field (.string RX4 134) "java/lang/String" "value" "[B")) (.int 5)) (by decide +kernel)
  · exact flat_of_before _ hgv (Cond.eq (.length (.field (.string RX4 136) "java/lang/String" "value" "[B")) (.int 4)) (by decide +kernel)
  · exact flat_of_before _ hgv (Cond.eq (.length (.field (.string RX4 138) "java/lang/String" "value" "[B")) (.int 3)) (by decide +kernel)
  · exact flat_of_before _ hgv (Cond.eq (.length (.field (.string RX4 140) "java/lang/String" "value" "[B")) (.int 4)) (by decide +kernel)
  · exact flat_of_before _ hgv (Cond.eq (.length (.field (.string RX4 142) "java/lang/String" "value" "[B")) (.int 0)) (by decide +kernel)
  · exact flat_of_before _ hgv (Cond.eq (.length (.field (.string RX12 125) "java/lang/String" "value" "[B")) (.int 43)) (by decide +kernel)

set_option maxRecDepth 100000 in
set_option maxHeartbeats 4000000 in
theorem hs_el0 {args : Array Value} {s : State} (hgv : (Jvm.Cond.and given_1 narrow_1).before args s = true) : ∀ j : Nat, j < 3 → (Cond.eq (.elem (.field (.string RX4 126) "java/lang/String" "value" "[B") (.int (Int32.ofNat j))) (.int ((h_byt10.getD 0 []).getD j 0))).before args s = true := by
  intro j hj
  rcases (show j = 0 ∨ j = 1 ∨ j = 2 by omega) with rfl | rfl | rfl
  · exact flat_of_before _ hgv (Cond.eq (.elem (.field (.string RX4 126) "java/lang/String" "value" "[B") (.int 0)) (.int 99)) (by decide +kernel)
  · exact flat_of_before _ hgv (Cond.eq (.elem (.field (.string RX4 126) "java/lang/String" "value" "[B") (.int 1)) (.int 97)) (by decide +kernel)
  · exact flat_of_before _ hgv (Cond.eq (.elem (.field (.string RX4 126) "java/lang/String" "value" "[B") (.int 2)) (.int 112)) (by decide +kernel)

set_option maxRecDepth 100000 in
set_option maxHeartbeats 4000000 in
theorem hs_el1 {args : Array Value} {s : State} (hgv : (Jvm.Cond.and given_1 narrow_1).before args s = true) : ∀ j : Nat, j < 6 → (Cond.eq (.elem (.field (.string RX4 128) "java/lang/String" "value" "[B") (.int (Int32.ofNat j))) (.int ((h_byt10.getD 1 []).getD j 0))).before args s = true := by
  intro j hj
  rcases (show j = 0 ∨ j = 1 ∨ j = 2 ∨ j = 3 ∨ j = 4 ∨ j = 5 by omega) with rfl | rfl | rfl | rfl | rfl | rfl
  · exact flat_of_before _ hgv (Cond.eq (.elem (.field (.string RX4 128) "java/lang/String" "value" "[B") (.int 0)) (.int 114)) (by decide +kernel)
  · exact flat_of_before _ hgv (Cond.eq (.elem (.field (.string RX4 128) "java/lang/String" "value" "[B") (.int 1)) (.int 111)) (by decide +kernel)
  · exact flat_of_before _ hgv (Cond.eq (.elem (.field (.string RX4 128) "java/lang/String" "value" "[B") (.int 2)) (.int 115)) (by decide +kernel)
  · exact flat_of_before _ hgv (Cond.eq (.elem (.field (.string RX4 128) "java/lang/String" "value" "[B") (.int 3)) (.int 116)) (by decide +kernel)
  · exact flat_of_before _ hgv (Cond.eq (.elem (.field (.string RX4 128) "java/lang/String" "value" "[B") (.int 4)) (.int 101)) (by decide +kernel)
  · exact flat_of_before _ hgv (Cond.eq (.elem (.field (.string RX4 128) "java/lang/String" "value" "[B") (.int 5)) (.int 114)) (by decide +kernel)

set_option maxRecDepth 100000 in
set_option maxHeartbeats 4000000 in
theorem hs_el2 {args : Array Value} {s : State} (hgv : (Jvm.Cond.and given_1 narrow_1).before args s = true) : ∀ j : Nat, j < 5 → (Cond.eq (.elem (.field (.string RX4 130) "java/lang/String" "value" "[B") (.int (Int32.ofNat j))) (.int ((h_byt10.getD 2 []).getD j 0))).before args s = true := by
  intro j hj
  rcases (show j = 0 ∨ j = 1 ∨ j = 2 ∨ j = 3 ∨ j = 4 by omega) with rfl | rfl | rfl | rfl | rfl
  · exact flat_of_before _ hgv (Cond.eq (.elem (.field (.string RX4 130) "java/lang/String" "value" "[B") (.int 0)) (.int 121)) (by decide +kernel)
  · exact flat_of_before _ hgv (Cond.eq (.elem (.field (.string RX4 130) "java/lang/String" "value" "[B") (.int 1)) (.int 101)) (by decide +kernel)
  · exact flat_of_before _ hgv (Cond.eq (.elem (.field (.string RX4 130) "java/lang/String" "value" "[B") (.int 2)) (.int 97)) (by decide +kernel)
  · exact flat_of_before _ hgv (Cond.eq (.elem (.field (.string RX4 130) "java/lang/String" "value" "[B") (.int 3)) (.int 114)) (by decide +kernel)
  · exact flat_of_before _ hgv (Cond.eq (.elem (.field (.string RX4 130) "java/lang/String" "value" "[B") (.int 4)) (.int 115)) (by decide +kernel)

set_option maxRecDepth 100000 in
set_option maxHeartbeats 4000000 in
theorem hs_el3 {args : Array Value} {s : State} (hgv : (Jvm.Cond.and given_1 narrow_1).before args s = true) : ∀ j : Nat, j < 5 → (Cond.eq (.elem (.field (.string RX4 132) "java/lang/String" "value" "[B") (.int (Int32.ofNat j))) (.int ((h_byt10.getD 3 []).getD j 0))).before args s = true := by
  intro j hj
  rcases (show j = 0 ∨ j = 1 ∨ j = 2 ∨ j = 3 ∨ j = 4 by omega) with rfl | rfl | rfl | rfl | rfl
  · exact flat_of_before _ hgv (Cond.eq (.elem (.field (.string RX4 132) "java/lang/String" "value" "[B") (.int 0)) (.int 115)) (by decide +kernel)
  · exact flat_of_before _ hgv (Cond.eq (.elem (.field (.string RX4 132) "java/lang/String" "value" "[B") (.int 1)) (.int 112)) (by decide +kernel)
  · exact flat_of_before _ hgv (Cond.eq (.elem (.field (.string RX4 132) "java/lang/String" "value" "[B") (.int 2)) (.int 97)) (by decide +kernel)
  · exact flat_of_before _ hgv (Cond.eq (.elem (.field (.string RX4 132) "java/lang/String" "value" "[B") (.int 3)) (.int 114)) (by decide +kernel)
  · exact flat_of_before _ hgv (Cond.eq (.elem (.field (.string RX4 132) "java/lang/String" "value" "[B") (.int 4)) (.int 101)) (by decide +kernel)

set_option maxRecDepth 100000 in
set_option maxHeartbeats 4000000 in
theorem hs_el4 {args : Array Value} {s : State} (hgv : (Jvm.Cond.and given_1 narrow_1).before args s = true) : ∀ j : Nat, j < 5 → (Cond.eq (.elem (.field (.string RX4 134) "java/lang/String" "value" "[B") (.int (Int32.ofNat j))) (.int ((h_byt10.getD 4 []).getD j 0))).before args s = true := by
  intro j hj
  rcases (show j = 0 ∨ j = 1 ∨ j = 2 ∨ j = 3 ∨ j = 4 by omega) with rfl | rfl | rfl | rfl | rfl
  · exact flat_of_before _ hgv (Cond.eq (.elem (.field (.string RX4 134) "java/lang/String" "value" "[B") (.int 0)) (.int 109)) (by decide +kernel)
  · exact flat_of_before _ hgv (Cond.eq (.elem (.field (.string RX4 134) "java/lang/String" "value" "[B") (.int 1)) (.int 97)) (by decide +kernel)
  · exact flat_of_before _ hgv (Cond.eq (.elem (.field (.string RX4 134) "java/lang/String" "value" "[B") (.int 2)) (.int 116)) (by decide +kernel)
  · exact flat_of_before _ hgv (Cond.eq (.elem (.field (.string RX4 134) "java/lang/String" "value" "[B") (.int 3)) (.int 99)) (by decide +kernel)
  · exact flat_of_before _ hgv (Cond.eq (.elem (.field (.string RX4 134) "java/lang/String" "value" "[B") (.int 4)) (.int 104)) (by decide +kernel)

set_option maxRecDepth 100000 in
set_option maxHeartbeats 4000000 in
theorem hs_el5 {args : Array Value} {s : State} (hgv : (Jvm.Cond.and given_1 narrow_1).before args s = true) : ∀ j : Nat, j < 4 → (Cond.eq (.elem (.field (.string RX4 136) "java/lang/String" "value" "[B") (.int (Int32.ofNat j))) (.int ((h_byt10.getD 5 []).getD j 0))).before args s = true := by
  intro j hj
  rcases (show j = 0 ∨ j = 1 ∨ j = 2 ∨ j = 3 by omega) with rfl | rfl | rfl | rfl
  · exact flat_of_before _ hgv (Cond.eq (.elem (.field (.string RX4 136) "java/lang/String" "value" "[B") (.int 0)) (.int 104)) (by decide +kernel)
  · exact flat_of_before _ hgv (Cond.eq (.elem (.field (.string RX4 136) "java/lang/String" "value" "[B") (.int 1)) (.int 117)) (by decide +kernel)
  · exact flat_of_before _ hgv (Cond.eq (.elem (.field (.string RX4 136) "java/lang/String" "value" "[B") (.int 2)) (.int 114)) (by decide +kernel)
  · exact flat_of_before _ hgv (Cond.eq (.elem (.field (.string RX4 136) "java/lang/String" "value" "[B") (.int 3)) (.int 116)) (by decide +kernel)

set_option maxRecDepth 100000 in
set_option maxHeartbeats 4000000 in
theorem hs_el6 {args : Array Value} {s : State} (hgv : (Jvm.Cond.and given_1 narrow_1).before args s = true) : ∀ j : Nat, j < 3 → (Cond.eq (.elem (.field (.string RX4 138) "java/lang/String" "value" "[B") (.int (Int32.ofNat j))) (.int ((h_byt10.getD 6 []).getD j 0))).before args s = true := by
  intro j hj
  rcases (show j = 0 ∨ j = 1 ∨ j = 2 by omega) with rfl | rfl | rfl
  · exact flat_of_before _ hgv (Cond.eq (.elem (.field (.string RX4 138) "java/lang/String" "value" "[B") (.int 0)) (.int 116)) (by decide +kernel)
  · exact flat_of_before _ hgv (Cond.eq (.elem (.field (.string RX4 138) "java/lang/String" "value" "[B") (.int 1)) (.int 97)) (by decide +kernel)
  · exact flat_of_before _ hgv (Cond.eq (.elem (.field (.string RX4 138) "java/lang/String" "value" "[B") (.int 2)) (.int 120)) (by decide +kernel)

set_option maxRecDepth 100000 in
set_option maxHeartbeats 4000000 in
theorem hs_el7 {args : Array Value} {s : State} (hgv : (Jvm.Cond.and given_1 narrow_1).before args s = true) : ∀ j : Nat, j < 4 → (Cond.eq (.elem (.field (.string RX4 140) "java/lang/String" "value" "[B") (.int (Int32.ofNat j))) (.int ((h_byt10.getD 7 []).getD j 0))).before args s = true := by
  intro j hj
  rcases (show j = 0 ∨ j = 1 ∨ j = 2 ∨ j = 3 by omega) with rfl | rfl | rfl | rfl
  · exact flat_of_before _ hgv (Cond.eq (.elem (.field (.string RX4 140) "java/lang/String" "value" "[B") (.int 0)) (.int 108)) (by decide +kernel)
  · exact flat_of_before _ hgv (Cond.eq (.elem (.field (.string RX4 140) "java/lang/String" "value" "[B") (.int 1)) (.int 111)) (by decide +kernel)
  · exact flat_of_before _ hgv (Cond.eq (.elem (.field (.string RX4 140) "java/lang/String" "value" "[B") (.int 2)) (.int 116)) (by decide +kernel)
  · exact flat_of_before _ hgv (Cond.eq (.elem (.field (.string RX4 140) "java/lang/String" "value" "[B") (.int 3)) (.int 115)) (by decide +kernel)

set_option maxRecDepth 100000 in
set_option maxHeartbeats 4000000 in
theorem hs_el8 {args : Array Value} {s : State} (hgv : (Jvm.Cond.and given_1 narrow_1).before args s = true) : ∀ j : Nat, j < 0 → (Cond.eq (.elem (.field (.string RX4 142) "java/lang/String" "value" "[B") (.int (Int32.ofNat j))) (.int ((h_byt10.getD 8 []).getD j 0))).before args s = true := by
  intro j hj
  exact absurd hj (Nat.not_lt_zero _)

set_option maxRecDepth 100000 in
set_option maxHeartbeats 4000000 in
theorem hs_el9 {args : Array Value} {s : State} (hgv : (Jvm.Cond.and given_1 narrow_1).before args s = true) : ∀ j : Nat, j < 43 → (Cond.eq (.elem (.field (.string RX12 125) "java/lang/String" "value" "[B") (.int (Int32.ofNat j))) (.int ((h_byt10.getD 9 []).getD j 0))).before args s = true := by
  intro j hj
  rcases (show j = 0 ∨ j = 1 ∨ j = 2 ∨ j = 3 ∨ j = 4 ∨ j = 5 ∨ j = 6 ∨ j = 7 ∨ j = 8 ∨ j = 9 ∨ j = 10 ∨ j = 11 ∨ j = 12 ∨ j = 13 ∨ j = 14 ∨ j = 15 ∨ j = 16 ∨ j = 17 ∨ j = 18 ∨ j = 19 ∨ j = 20 ∨ j = 21 ∨ j = 22 ∨ j = 23 ∨ j = 24 ∨ j = 25 ∨ j = 26 ∨ j = 27 ∨ j = 28 ∨ j = 29 ∨ j = 30 ∨ j = 31 ∨ j = 32 ∨ j = 33 ∨ j = 34 ∨ j = 35 ∨ j = 36 ∨ j = 37 ∨ j = 38 ∨ j = 39 ∨ j = 40 ∨ j = 41 ∨ j = 42 by omega) with rfl | rfl | rfl | rfl | rfl | rfl | rfl | rfl | rfl | rfl | rfl | rfl | rfl | rfl | rfl | rfl | rfl | rfl | rfl | rfl | rfl | rfl | rfl | rfl | rfl | rfl | rfl | rfl | rfl | rfl | rfl | rfl | rfl | rfl | rfl | rfl | rfl | rfl | rfl | rfl | rfl | rfl | rfl
  · exact flat_of_before _ hgv (Cond.eq (.elem (.field (.string RX12 125) "java/lang/String" "value" "[B") (.int 0)) (.int 99)) (by decide +kernel)
  · exact flat_of_before _ hgv (Cond.eq (.elem (.field (.string RX12 125) "java/lang/String" "value" "[B") (.int 1)) (.int 97)) (by decide +kernel)
  · exact flat_of_before _ hgv (Cond.eq (.elem (.field (.string RX12 125) "java/lang/String" "value" "[B") (.int 2)) (.int 112)) (by decide +kernel)
  · exact flat_of_before _ hgv (Cond.eq (.elem (.field (.string RX12 125) "java/lang/String" "value" "[B") (.int 3)) (.int 32)) (by decide +kernel)
  · exact flat_of_before _ hgv (Cond.eq (.elem (.field (.string RX12 125) "java/lang/String" "value" "[B") (.int 4)) (.int 114)) (by decide +kernel)
  · exact flat_of_before _ hgv (Cond.eq (.elem (.field (.string RX12 125) "java/lang/String" "value" "[B") (.int 5)) (.int 111)) (by decide +kernel)
  · exact flat_of_before _ hgv (Cond.eq (.elem (.field (.string RX12 125) "java/lang/String" "value" "[B") (.int 6)) (.int 115)) (by decide +kernel)
  · exact flat_of_before _ hgv (Cond.eq (.elem (.field (.string RX12 125) "java/lang/String" "value" "[B") (.int 7)) (.int 116)) (by decide +kernel)
  · exact flat_of_before _ hgv (Cond.eq (.elem (.field (.string RX12 125) "java/lang/String" "value" "[B") (.int 8)) (.int 101)) (by decide +kernel)
  · exact flat_of_before _ hgv (Cond.eq (.elem (.field (.string RX12 125) "java/lang/String" "value" "[B") (.int 9)) (.int 114)) (by decide +kernel)
  · exact flat_of_before _ hgv (Cond.eq (.elem (.field (.string RX12 125) "java/lang/String" "value" "[B") (.int 10)) (.int 32)) (by decide +kernel)
  · exact flat_of_before _ hgv (Cond.eq (.elem (.field (.string RX12 125) "java/lang/String" "value" "[B") (.int 11)) (.int 121)) (by decide +kernel)
  · exact flat_of_before _ hgv (Cond.eq (.elem (.field (.string RX12 125) "java/lang/String" "value" "[B") (.int 12)) (.int 101)) (by decide +kernel)
  · exact flat_of_before _ hgv (Cond.eq (.elem (.field (.string RX12 125) "java/lang/String" "value" "[B") (.int 13)) (.int 97)) (by decide +kernel)
  · exact flat_of_before _ hgv (Cond.eq (.elem (.field (.string RX12 125) "java/lang/String" "value" "[B") (.int 14)) (.int 114)) (by decide +kernel)
  · exact flat_of_before _ hgv (Cond.eq (.elem (.field (.string RX12 125) "java/lang/String" "value" "[B") (.int 15)) (.int 115)) (by decide +kernel)
  · exact flat_of_before _ hgv (Cond.eq (.elem (.field (.string RX12 125) "java/lang/String" "value" "[B") (.int 16)) (.int 32)) (by decide +kernel)
  · exact flat_of_before _ hgv (Cond.eq (.elem (.field (.string RX12 125) "java/lang/String" "value" "[B") (.int 17)) (.int 115)) (by decide +kernel)
  · exact flat_of_before _ hgv (Cond.eq (.elem (.field (.string RX12 125) "java/lang/String" "value" "[B") (.int 18)) (.int 112)) (by decide +kernel)
  · exact flat_of_before _ hgv (Cond.eq (.elem (.field (.string RX12 125) "java/lang/String" "value" "[B") (.int 19)) (.int 97)) (by decide +kernel)
  · exact flat_of_before _ hgv (Cond.eq (.elem (.field (.string RX12 125) "java/lang/String" "value" "[B") (.int 20)) (.int 114)) (by decide +kernel)
  · exact flat_of_before _ hgv (Cond.eq (.elem (.field (.string RX12 125) "java/lang/String" "value" "[B") (.int 21)) (.int 101)) (by decide +kernel)
  · exact flat_of_before _ hgv (Cond.eq (.elem (.field (.string RX12 125) "java/lang/String" "value" "[B") (.int 22)) (.int 32)) (by decide +kernel)
  · exact flat_of_before _ hgv (Cond.eq (.elem (.field (.string RX12 125) "java/lang/String" "value" "[B") (.int 23)) (.int 109)) (by decide +kernel)
  · exact flat_of_before _ hgv (Cond.eq (.elem (.field (.string RX12 125) "java/lang/String" "value" "[B") (.int 24)) (.int 97)) (by decide +kernel)
  · exact flat_of_before _ hgv (Cond.eq (.elem (.field (.string RX12 125) "java/lang/String" "value" "[B") (.int 25)) (.int 116)) (by decide +kernel)
  · exact flat_of_before _ hgv (Cond.eq (.elem (.field (.string RX12 125) "java/lang/String" "value" "[B") (.int 26)) (.int 99)) (by decide +kernel)
  · exact flat_of_before _ hgv (Cond.eq (.elem (.field (.string RX12 125) "java/lang/String" "value" "[B") (.int 27)) (.int 104)) (by decide +kernel)
  · exact flat_of_before _ hgv (Cond.eq (.elem (.field (.string RX12 125) "java/lang/String" "value" "[B") (.int 28)) (.int 32)) (by decide +kernel)
  · exact flat_of_before _ hgv (Cond.eq (.elem (.field (.string RX12 125) "java/lang/String" "value" "[B") (.int 29)) (.int 104)) (by decide +kernel)
  · exact flat_of_before _ hgv (Cond.eq (.elem (.field (.string RX12 125) "java/lang/String" "value" "[B") (.int 30)) (.int 117)) (by decide +kernel)
  · exact flat_of_before _ hgv (Cond.eq (.elem (.field (.string RX12 125) "java/lang/String" "value" "[B") (.int 31)) (.int 114)) (by decide +kernel)
  · exact flat_of_before _ hgv (Cond.eq (.elem (.field (.string RX12 125) "java/lang/String" "value" "[B") (.int 32)) (.int 116)) (by decide +kernel)
  · exact flat_of_before _ hgv (Cond.eq (.elem (.field (.string RX12 125) "java/lang/String" "value" "[B") (.int 33)) (.int 32)) (by decide +kernel)
  · exact flat_of_before _ hgv (Cond.eq (.elem (.field (.string RX12 125) "java/lang/String" "value" "[B") (.int 34)) (.int 116)) (by decide +kernel)
  · exact flat_of_before _ hgv (Cond.eq (.elem (.field (.string RX12 125) "java/lang/String" "value" "[B") (.int 35)) (.int 97)) (by decide +kernel)
  · exact flat_of_before _ hgv (Cond.eq (.elem (.field (.string RX12 125) "java/lang/String" "value" "[B") (.int 36)) (.int 120)) (by decide +kernel)
  · exact flat_of_before _ hgv (Cond.eq (.elem (.field (.string RX12 125) "java/lang/String" "value" "[B") (.int 37)) (.int 32)) (by decide +kernel)
  · exact flat_of_before _ hgv (Cond.eq (.elem (.field (.string RX12 125) "java/lang/String" "value" "[B") (.int 38)) (.int 108)) (by decide +kernel)
  · exact flat_of_before _ hgv (Cond.eq (.elem (.field (.string RX12 125) "java/lang/String" "value" "[B") (.int 39)) (.int 111)) (by decide +kernel)
  · exact flat_of_before _ hgv (Cond.eq (.elem (.field (.string RX12 125) "java/lang/String" "value" "[B") (.int 40)) (.int 116)) (by decide +kernel)
  · exact flat_of_before _ hgv (Cond.eq (.elem (.field (.string RX12 125) "java/lang/String" "value" "[B") (.int 41)) (.int 115)) (by decide +kernel)
  · exact flat_of_before _ hgv (Cond.eq (.elem (.field (.string RX12 125) "java/lang/String" "value" "[B") (.int 42)) (.int 32)) (by decide +kernel)

set_option maxRecDepth 100000 in
set_option maxHeartbeats 4000000 in
theorem hs_el {args : Array Value} {s : State} (hgv : (Jvm.Cond.and given_1 narrow_1).before args s = true) : ∀ i : Nat, i < 10 → ∀ j : Nat, j < h_len10.getD i 0 → (Cond.eq (.elem (.field (h_tm i) "java/lang/String" "value" "[B") (.int (Int32.ofNat j))) (.int ((h_byt10.getD i []).getD j 0))).before args s = true := by
  intro i hi
  rcases (show i = 0 ∨ i = 1 ∨ i = 2 ∨ i = 3 ∨ i = 4 ∨ i = 5 ∨ i = 6 ∨ i = 7 ∨ i = 8 ∨ i = 9 by omega) with rfl | rfl | rfl | rfl | rfl | rfl | rfl | rfl | rfl | rfl
  · exact fun j hj => hs_el0 hgv j hj
  · exact fun j hj => hs_el1 hgv j hj
  · exact fun j hj => hs_el2 hgv j hj
  · exact fun j hj => hs_el3 hgv j hj
  · exact fun j hj => hs_el4 hgv j hj
  · exact fun j hj => hs_el5 hgv j hj
  · exact fun j hj => hs_el6 hgv j hj
  · exact fun j hj => hs_el7 hgv j hj
  · exact fun j hj => hs_el8 hgv j hj
  · exact fun j hj => hs_el9 hgv j hj

set_option maxRecDepth 100000 in
set_option maxHeartbeats 4000000 in
theorem hs_ne0 {args : Array Value} {s : State} (hgv : (Jvm.Cond.and given_1 narrow_1).before args s = true) : ∀ j : Nat, j < 10 → 0 ≠ j → (Cond.not (Cond.eq (h_tm 0) (h_tm j))).before args s = true ∨ (Cond.not (Cond.eq (h_tm j) (h_tm 0))).before args s = true := by
  intro j hj hne
  rcases (show j = 1 ∨ j = 2 ∨ j = 3 ∨ j = 4 ∨ j = 5 ∨ j = 6 ∨ j = 7 ∨ j = 8 ∨ j = 9 by omega) with rfl | rfl | rfl | rfl | rfl | rfl | rfl | rfl | rfl
  · exact Or.inl (flat_of_before _ hgv (Cond.not (Cond.eq (.string RX4 126) (.string RX4 128))) (by decide +kernel))
  · exact Or.inl (flat_of_before _ hgv (Cond.not (Cond.eq (.string RX4 126) (.string RX4 130))) (by decide +kernel))
  · exact Or.inl (flat_of_before _ hgv (Cond.not (Cond.eq (.string RX4 126) (.string RX4 132))) (by decide +kernel))
  · exact Or.inl (flat_of_before _ hgv (Cond.not (Cond.eq (.string RX4 126) (.string RX4 134))) (by decide +kernel))
  · exact Or.inl (flat_of_before _ hgv (Cond.not (Cond.eq (.string RX4 126) (.string RX4 136))) (by decide +kernel))
  · exact Or.inl (flat_of_before _ hgv (Cond.not (Cond.eq (.string RX4 126) (.string RX4 138))) (by decide +kernel))
  · exact Or.inl (flat_of_before _ hgv (Cond.not (Cond.eq (.string RX4 126) (.string RX4 140))) (by decide +kernel))
  · exact Or.inl (flat_of_before _ hgv (Cond.not (Cond.eq (.string RX4 126) (.string RX4 142))) (by decide +kernel))
  · exact Or.inl (flat_of_before _ hgv (Cond.not (Cond.eq (.string RX4 126) (.string RX12 125))) (by decide +kernel))

set_option maxRecDepth 100000 in
set_option maxHeartbeats 4000000 in
theorem hs_ne1 {args : Array Value} {s : State} (hgv : (Jvm.Cond.and given_1 narrow_1).before args s = true) : ∀ j : Nat, j < 10 → 1 ≠ j → (Cond.not (Cond.eq (h_tm 1) (h_tm j))).before args s = true ∨ (Cond.not (Cond.eq (h_tm j) (h_tm 1))).before args s = true := by
  intro j hj hne
  rcases (show j = 0 ∨ j = 2 ∨ j = 3 ∨ j = 4 ∨ j = 5 ∨ j = 6 ∨ j = 7 ∨ j = 8 ∨ j = 9 by omega) with rfl | rfl | rfl | rfl | rfl | rfl | rfl | rfl | rfl
  · exact Or.inr (flat_of_before _ hgv (Cond.not (Cond.eq (.string RX4 126) (.string RX4 128))) (by decide +kernel))
  · exact Or.inl (flat_of_before _ hgv (Cond.not (Cond.eq (.string RX4 128) (.string RX4 130))) (by decide +kernel))
  · exact Or.inl (flat_of_before _ hgv (Cond.not (Cond.eq (.string RX4 128) (.string RX4 132))) (by decide +kernel))
  · exact Or.inl (flat_of_before _ hgv (Cond.not (Cond.eq (.string RX4 128) (.string RX4 134))) (by decide +kernel))
  · exact Or.inl (flat_of_before _ hgv (Cond.not (Cond.eq (.string RX4 128) (.string RX4 136))) (by decide +kernel))
  · exact Or.inl (flat_of_before _ hgv (Cond.not (Cond.eq (.string RX4 128) (.string RX4 138))) (by decide +kernel))
  · exact Or.inl (flat_of_before _ hgv (Cond.not (Cond.eq (.string RX4 128) (.string RX4 140))) (by decide +kernel))
  · exact Or.inl (flat_of_before _ hgv (Cond.not (Cond.eq (.string RX4 128) (.string RX4 142))) (by decide +kernel))
  · exact Or.inl (flat_of_before _ hgv (Cond.not (Cond.eq (.string RX4 128) (.string RX12 125))) (by decide +kernel))

set_option maxRecDepth 100000 in
set_option maxHeartbeats 4000000 in
theorem hs_ne2 {args : Array Value} {s : State} (hgv : (Jvm.Cond.and given_1 narrow_1).before args s = true) : ∀ j : Nat, j < 10 → 2 ≠ j → (Cond.not (Cond.eq (h_tm 2) (h_tm j))).before args s = true ∨ (Cond.not (Cond.eq (h_tm j) (h_tm 2))).before args s = true := by
  intro j hj hne
  rcases (show j = 0 ∨ j = 1 ∨ j = 3 ∨ j = 4 ∨ j = 5 ∨ j = 6 ∨ j = 7 ∨ j = 8 ∨ j = 9 by omega) with rfl | rfl | rfl | rfl | rfl | rfl | rfl | rfl | rfl
  · exact Or.inr (flat_of_before _ hgv (Cond.not (Cond.eq (.string RX4 126) (.string RX4 130))) (by decide +kernel))
  · exact Or.inr (flat_of_before _ hgv (Cond.not (Cond.eq (.string RX4 128) (.string RX4 130))) (by decide +kernel))
  · exact Or.inl (flat_of_before _ hgv (Cond.not (Cond.eq (.string RX4 130) (.string RX4 132))) (by decide +kernel))
  · exact Or.inl (flat_of_before _ hgv (Cond.not (Cond.eq (.string RX4 130) (.string RX4 134))) (by decide +kernel))
  · exact Or.inl (flat_of_before _ hgv (Cond.not (Cond.eq (.string RX4 130) (.string RX4 136))) (by decide +kernel))
  · exact Or.inl (flat_of_before _ hgv (Cond.not (Cond.eq (.string RX4 130) (.string RX4 138))) (by decide +kernel))
  · exact Or.inl (flat_of_before _ hgv (Cond.not (Cond.eq (.string RX4 130) (.string RX4 140))) (by decide +kernel))
  · exact Or.inl (flat_of_before _ hgv (Cond.not (Cond.eq (.string RX4 130) (.string RX4 142))) (by decide +kernel))
  · exact Or.inl (flat_of_before _ hgv (Cond.not (Cond.eq (.string RX4 130) (.string RX12 125))) (by decide +kernel))

set_option maxRecDepth 100000 in
set_option maxHeartbeats 4000000 in
theorem hs_ne3 {args : Array Value} {s : State} (hgv : (Jvm.Cond.and given_1 narrow_1).before args s = true) : ∀ j : Nat, j < 10 → 3 ≠ j → (Cond.not (Cond.eq (h_tm 3) (h_tm j))).before args s = true ∨ (Cond.not (Cond.eq (h_tm j) (h_tm 3))).before args s = true := by
  intro j hj hne
  rcases (show j = 0 ∨ j = 1 ∨ j = 2 ∨ j = 4 ∨ j = 5 ∨ j = 6 ∨ j = 7 ∨ j = 8 ∨ j = 9 by omega) with rfl | rfl | rfl | rfl | rfl | rfl | rfl | rfl | rfl
  · exact Or.inr (flat_of_before _ hgv (Cond.not (Cond.eq (.string RX4 126) (.string RX4 132))) (by decide +kernel))
  · exact Or.inr (flat_of_before _ hgv (Cond.not (Cond.eq (.string RX4 128) (.string RX4 132))) (by decide +kernel))
  · exact Or.inr (flat_of_before _ hgv (Cond.not (Cond.eq (.string RX4 130) (.string RX4 132))) (by decide +kernel))
  · exact Or.inl (flat_of_before _ hgv (Cond.not (Cond.eq (.string RX4 132) (.string RX4 134))) (by decide +kernel))
  · exact Or.inl (flat_of_before _ hgv (Cond.not (Cond.eq (.string RX4 132) (.string RX4 136))) (by decide +kernel))
  · exact Or.inl (flat_of_before _ hgv (Cond.not (Cond.eq (.string RX4 132) (.string RX4 138))) (by decide +kernel))
  · exact Or.inl (flat_of_before _ hgv (Cond.not (Cond.eq (.string RX4 132) (.string RX4 140))) (by decide +kernel))
  · exact Or.inl (flat_of_before _ hgv (Cond.not (Cond.eq (.string RX4 132) (.string RX4 142))) (by decide +kernel))
  · exact Or.inl (flat_of_before _ hgv (Cond.not (Cond.eq (.string RX4 132) (.string RX12 125))) (by decide +kernel))

set_option maxRecDepth 100000 in
set_option maxHeartbeats 4000000 in
theorem hs_ne4 {args : Array Value} {s : State} (hgv : (Jvm.Cond.and given_1 narrow_1).before args s = true) : ∀ j : Nat, j < 10 → 4 ≠ j → (Cond.not (Cond.eq (h_tm 4) (h_tm j))).before args s = true ∨ (Cond.not (Cond.eq (h_tm j) (h_tm 4))).before args s = true := by
  intro j hj hne
  rcases (show j = 0 ∨ j = 1 ∨ j = 2 ∨ j = 3 ∨ j = 5 ∨ j = 6 ∨ j = 7 ∨ j = 8 ∨ j = 9 by omega) with rfl | rfl | rfl | rfl | rfl | rfl | rfl | rfl | rfl
  · exact Or.inr (flat_of_before _ hgv (Cond.not (Cond.eq (.string RX4 126) (.string RX4 134))) (by decide +kernel))
  · exact Or.inr (flat_of_before _ hgv (Cond.not (Cond.eq (.string RX4 128) (.string RX4 134))) (by decide +kernel))
  · exact Or.inr (flat_of_before _ hgv (Cond.not (Cond.eq (.string RX4 130) (.string RX4 134))) (by decide +kernel))
  · exact Or.inr (flat_of_before _ hgv (Cond.not (Cond.eq (.string RX4 132) (.string RX4 134))) (by decide +kernel))
  · exact Or.inl (flat_of_before _ hgv (Cond.not (Cond.eq (.string RX4 134) (.string RX4 136))) (by decide +kernel))
  · exact Or.inl (flat_of_before _ hgv (Cond.not (Cond.eq (.string RX4 134) (.string RX4 138))) (by decide +kernel))
  · exact Or.inl (flat_of_before _ hgv (Cond.not (Cond.eq (.string RX4 134) (.string RX4 140))) (by decide +kernel))
  · exact Or.inl (flat_of_before _ hgv (Cond.not (Cond.eq (.string RX4 134) (.string RX4 142))) (by decide +kernel))
  · exact Or.inl (flat_of_before _ hgv (Cond.not (Cond.eq (.string RX4 134) (.string RX12 125))) (by decide +kernel))

set_option maxRecDepth 100000 in
set_option maxHeartbeats 4000000 in
theorem hs_ne5 {args : Array Value} {s : State} (hgv : (Jvm.Cond.and given_1 narrow_1).before args s = true) : ∀ j : Nat, j < 10 → 5 ≠ j → (Cond.not (Cond.eq (h_tm 5) (h_tm j))).before args s = true ∨ (Cond.not (Cond.eq (h_tm j) (h_tm 5))).before args s = true := by
  intro j hj hne
  rcases (show j = 0 ∨ j = 1 ∨ j = 2 ∨ j = 3 ∨ j = 4 ∨ j = 6 ∨ j = 7 ∨ j = 8 ∨ j = 9 by omega) with rfl | rfl | rfl | rfl | rfl | rfl | rfl | rfl | rfl
  · exact Or.inr (flat_of_before _ hgv (Cond.not (Cond.eq (.string RX4 126) (.string RX4 136))) (by decide +kernel))
  · exact Or.inr (flat_of_before _ hgv (Cond.not (Cond.eq (.string RX4 128) (.string RX4 136))) (by decide +kernel))
  · exact Or.inr (flat_of_before _ hgv (Cond.not (Cond.eq (.string RX4 130) (.string RX4 136))) (by decide +kernel))
  · exact Or.inr (flat_of_before _ hgv (Cond.not (Cond.eq (.string RX4 132) (.string RX4 136))) (by decide +kernel))
  · exact Or.inr (flat_of_before _ hgv (Cond.not (Cond.eq (.string RX4 134) (.string RX4 136))) (by decide +kernel))
  · exact Or.inl (flat_of_before _ hgv (Cond.not (Cond.eq (.string RX4 136) (.string RX4 138))) (by decide +kernel))
  · exact Or.inl (flat_of_before _ hgv (Cond.not (Cond.eq (.string RX4 136) (.string RX4 140))) (by decide +kernel))
  · exact Or.inl (flat_of_before _ hgv (Cond.not (Cond.eq (.string RX4 136) (.string RX4 142))) (by decide +kernel))
  · exact Or.inl (flat_of_before _ hgv (Cond.not (Cond.eq (.string RX4 136) (.string RX12 125))) (by decide +kernel))

set_option maxRecDepth 100000 in
set_option maxHeartbeats 4000000 in
theorem hs_ne6 {args : Array Value} {s : State} (hgv : (Jvm.Cond.and given_1 narrow_1).before args s = true) : ∀ j : Nat, j < 10 → 6 ≠ j → (Cond.not (Cond.eq (h_tm 6) (h_tm j))).before args s = true ∨ (Cond.not (Cond.eq (h_tm j) (h_tm 6))).before args s = true := by
  intro j hj hne
  rcases (show j = 0 ∨ j = 1 ∨ j = 2 ∨ j = 3 ∨ j = 4 ∨ j = 5 ∨ j = 7 ∨ j = 8 ∨ j = 9 by omega) with rfl | rfl | rfl | rfl | rfl | rfl | rfl | rfl | rfl
  · exact Or.inr (flat_of_before _ hgv (Cond.not (Cond.eq (.string RX4 126) (.string RX4 138))) (by decide +kernel))
  · exact Or.inr (flat_of_before _ hgv (Cond.not (Cond.eq (.string RX4 128) (.string RX4 138))) (by decide +kernel))
  · exact Or.inr (flat_of_before _ hgv (Cond.not (Cond.eq (.string RX4 130) (.string RX4 138))) (by decide +kernel))
  · exact Or.inr (flat_of_before _ hgv (Cond.not (Cond.eq (.string RX4 132) (.string RX4 138))) (by decide +kernel))
  · exact Or.inr (flat_of_before _ hgv (Cond.not (Cond.eq (.string RX4 134) (.string RX4 138))) (by decide +kernel))
  · exact Or.inr (flat_of_before _ hgv (Cond.not (Cond.eq (.string RX4 136) (.string RX4 138))) (by decide +kernel))
  · exact Or.inl (flat_of_before _ hgv (Cond.not (Cond.eq (.string RX4 138) (.string RX4 140))) (by decide +kernel))
  · exact Or.inl (flat_of_before _ hgv (Cond.not (Cond.eq (.string RX4 138) (.string RX4 142))) (by decide +kernel))
  · exact Or.inl (flat_of_before _ hgv (Cond.not (Cond.eq (.string RX4 138) (.string RX12 125))) (by decide +kernel))

set_option maxRecDepth 100000 in
set_option maxHeartbeats 4000000 in
theorem hs_ne7 {args : Array Value} {s : State} (hgv : (Jvm.Cond.and given_1 narrow_1).before args s = true) : ∀ j : Nat, j < 10 → 7 ≠ j → (Cond.not (Cond.eq (h_tm 7) (h_tm j))).before args s = true ∨ (Cond.not (Cond.eq (h_tm j) (h_tm 7))).before args s = true := by
  intro j hj hne
  rcases (show j = 0 ∨ j = 1 ∨ j = 2 ∨ j = 3 ∨ j = 4 ∨ j = 5 ∨ j = 6 ∨ j = 8 ∨ j = 9 by omega) with rfl | rfl | rfl | rfl | rfl | rfl | rfl | rfl | rfl
  · exact Or.inr (flat_of_before _ hgv (Cond.not (Cond.eq (.string RX4 126) (.string RX4 140))) (by decide +kernel))
  · exact Or.inr (flat_of_before _ hgv (Cond.not (Cond.eq (.string RX4 128) (.string RX4 140))) (by decide +kernel))
  · exact Or.inr (flat_of_before _ hgv (Cond.not (Cond.eq (.string RX4 130) (.string RX4 140))) (by decide +kernel))
  · exact Or.inr (flat_of_before _ hgv (Cond.not (Cond.eq (.string RX4 132) (.string RX4 140))) (by decide +kernel))
  · exact Or.inr (flat_of_before _ hgv (Cond.not (Cond.eq (.string RX4 134) (.string RX4 140))) (by decide +kernel))
  · exact Or.inr (flat_of_before _ hgv (Cond.not (Cond.eq (.string RX4 136) (.string RX4 140))) (by decide +kernel))
  · exact Or.inr (flat_of_before _ hgv (Cond.not (Cond.eq (.string RX4 138) (.string RX4 140))) (by decide +kernel))
  · exact Or.inl (flat_of_before _ hgv (Cond.not (Cond.eq (.string RX4 140) (.string RX4 142))) (by decide +kernel))
  · exact Or.inl (flat_of_before _ hgv (Cond.not (Cond.eq (.string RX4 140) (.string RX12 125))) (by decide +kernel))

set_option maxRecDepth 100000 in
set_option maxHeartbeats 4000000 in
theorem hs_ne8 {args : Array Value} {s : State} (hgv : (Jvm.Cond.and given_1 narrow_1).before args s = true) : ∀ j : Nat, j < 10 → 8 ≠ j → (Cond.not (Cond.eq (h_tm 8) (h_tm j))).before args s = true ∨ (Cond.not (Cond.eq (h_tm j) (h_tm 8))).before args s = true := by
  intro j hj hne
  rcases (show j = 0 ∨ j = 1 ∨ j = 2 ∨ j = 3 ∨ j = 4 ∨ j = 5 ∨ j = 6 ∨ j = 7 ∨ j = 9 by omega) with rfl | rfl | rfl | rfl | rfl | rfl | rfl | rfl | rfl
  · exact Or.inr (flat_of_before _ hgv (Cond.not (Cond.eq (.string RX4 126) (.string RX4 142))) (by decide +kernel))
  · exact Or.inr (flat_of_before _ hgv (Cond.not (Cond.eq (.string RX4 128) (.string RX4 142))) (by decide +kernel))
  · exact Or.inr (flat_of_before _ hgv (Cond.not (Cond.eq (.string RX4 130) (.string RX4 142))) (by decide +kernel))
  · exact Or.inr (flat_of_before _ hgv (Cond.not (Cond.eq (.string RX4 132) (.string RX4 142))) (by decide +kernel))
  · exact Or.inr (flat_of_before _ hgv (Cond.not (Cond.eq (.string RX4 134) (.string RX4 142))) (by decide +kernel))
  · exact Or.inr (flat_of_before _ hgv (Cond.not (Cond.eq (.string RX4 136) (.string RX4 142))) (by decide +kernel))
  · exact Or.inr (flat_of_before _ hgv (Cond.not (Cond.eq (.string RX4 138) (.string RX4 142))) (by decide +kernel))
  · exact Or.inr (flat_of_before _ hgv (Cond.not (Cond.eq (.string RX4 140) (.string RX4 142))) (by decide +kernel))
  · exact Or.inl (flat_of_before _ hgv (Cond.not (Cond.eq (.string RX4 142) (.string RX12 125))) (by decide +kernel))

set_option maxRecDepth 100000 in
set_option maxHeartbeats 4000000 in
theorem hs_ne9 {args : Array Value} {s : State} (hgv : (Jvm.Cond.and given_1 narrow_1).before args s = true) : ∀ j : Nat, j < 10 → 9 ≠ j → (Cond.not (Cond.eq (h_tm 9) (h_tm j))).before args s = true ∨ (Cond.not (Cond.eq (h_tm j) (h_tm 9))).before args s = true := by
  intro j hj hne
  rcases (show j = 0 ∨ j = 1 ∨ j = 2 ∨ j = 3 ∨ j = 4 ∨ j = 5 ∨ j = 6 ∨ j = 7 ∨ j = 8 by omega) with rfl | rfl | rfl | rfl | rfl | rfl | rfl | rfl | rfl
  · exact Or.inr (flat_of_before _ hgv (Cond.not (Cond.eq (.string RX4 126) (.string RX12 125))) (by decide +kernel))
  · exact Or.inr (flat_of_before _ hgv (Cond.not (Cond.eq (.string RX4 128) (.string RX12 125))) (by decide +kernel))
  · exact Or.inr (flat_of_before _ hgv (Cond.not (Cond.eq (.string RX4 130) (.string RX12 125))) (by decide +kernel))
  · exact Or.inr (flat_of_before _ hgv (Cond.not (Cond.eq (.string RX4 132) (.string RX12 125))) (by decide +kernel))
  · exact Or.inr (flat_of_before _ hgv (Cond.not (Cond.eq (.string RX4 134) (.string RX12 125))) (by decide +kernel))
  · exact Or.inr (flat_of_before _ hgv (Cond.not (Cond.eq (.string RX4 136) (.string RX12 125))) (by decide +kernel))
  · exact Or.inr (flat_of_before _ hgv (Cond.not (Cond.eq (.string RX4 138) (.string RX12 125))) (by decide +kernel))
  · exact Or.inr (flat_of_before _ hgv (Cond.not (Cond.eq (.string RX4 140) (.string RX12 125))) (by decide +kernel))
  · exact Or.inr (flat_of_before _ hgv (Cond.not (Cond.eq (.string RX4 142) (.string RX12 125))) (by decide +kernel))

theorem hs_ne {args : Array Value} {s : State} (hgv : (Jvm.Cond.and given_1 narrow_1).before args s = true) : ∀ i j : Nat, i < 10 → j < 10 → i ≠ j → (Cond.not (Cond.eq (h_tm i) (h_tm j))).before args s = true ∨ (Cond.not (Cond.eq (h_tm j) (h_tm i))).before args s = true := by
  intro i j hi hj hne
  rcases (show i = 0 ∨ i = 1 ∨ i = 2 ∨ i = 3 ∨ i = 4 ∨ i = 5 ∨ i = 6 ∨ i = 7 ∨ i = 8 ∨ i = 9 by omega) with rfl | rfl | rfl | rfl | rfl | rfl | rfl | rfl | rfl | rfl
  · exact hs_ne0 hgv j hj hne
  · exact hs_ne1 hgv j hj hne
  · exact hs_ne2 hgv j hj hne
  · exact hs_ne3 hgv j hj hne
  · exact hs_ne4 hgv j hj hne
  · exact hs_ne5 hgv j hj hne
  · exact hs_ne6 hgv j hj hne
  · exact hs_ne7 hgv j hj hne
  · exact hs_ne8 hgv j hj hne
  · exact hs_ne9 hgv j hj hne

set_option maxRecDepth 100000 in
set_option maxHeartbeats 4000000 in
theorem hs_LEAST {args : Array Value} {s : State} (hts : ∀ w ∈ lw_tbl, w.before args s = true) (hgv : (Jvm.Cond.and given_1 narrow_1).before args s = true) {A : Nat → Prop} (hA : ∀ a : Nat, a < s.heap.size → ¬ A a) : ∃ t : Nat, va_Z RX11 "LEAST" "[I" (.ref t) A s s.heap ∧ va_T .int t 9 (fun j => .int (hf_L j)) A s s.heap := by
  have hs := flat_of_before _ hgv
  obtain ⟨t, h1, h2⟩ := va_Tof (args := args) (tm := .static RX11 "LEAST" "[I") (ty := .int) (N := 9) (f := fun j => .int (hf_L j)) (A := A) (by decide) (hs _ (by decide +kernel)) (va_eqt (z := 9) (hs _ (by decide +kernel)))
    (fun j hj => by
      rcases (show j = 0 ∨ j = 1 ∨ j = 2 ∨ j = 3 ∨ j = 4 ∨ j = 5 ∨ j = 6 ∨ j = 7 ∨ j = 8 by omega) with rfl | rfl | rfl | rfl | rfl | rfl | rfl | rfl | rfl
      · exact va_eqt (t := .elem (.static RX11 "LEAST" "[I") (.int 0)) (z := 1) (hs _ (by decide +kernel))
      · exact va_eqt (t := .elem (.static RX11 "LEAST" "[I") (.int 1)) (z := 1) (hs _ (by decide +kernel))
      · exact va_eqt (t := .elem (.static RX11 "LEAST" "[I") (.int 2)) (z := 1) (hs _ (by decide +kernel))
      · exact va_eqt (t := .elem (.static RX11 "LEAST" "[I") (.int 3)) (z := 0) (hs _ (by decide +kernel))
      · exact va_eqt (t := .elem (.static RX11 "LEAST" "[I") (.int 4)) (z := 0) (hs _ (by decide +kernel))
      · exact va_eqt (t := .elem (.static RX11 "LEAST" "[I") (.int 5)) (z := 0) (hs _ (by decide +kernel))
      · exact va_eqt (t := .elem (.static RX11 "LEAST" "[I") (.int 6)) (z := 0) (hs _ (by decide +kernel))
      · exact va_eqt (t := .elem (.static RX11 "LEAST" "[I") (.int 7)) (z := 0) (hs _ (by decide +kernel))
      · exact va_eqt (t := .elem (.static RX11 "LEAST" "[I") (.int 8)) (z := 1) (hs _ (by decide +kernel))) hA
  exact ⟨t, va_Zref (C := RX11) (n := "LEAST") (d := "[I") (hts (.laysStatic RX11 "LEAST" "[I") (by decide +kernel)) (hts (.initialized RX11) (by decide +kernel)) h1 hA, h2⟩
set_option maxRecDepth 100000 in
set_option maxHeartbeats 4000000 in
theorem hs_MOST {args : Array Value} {s : State} (hts : ∀ w ∈ lw_tbl, w.before args s = true) (hgv : (Jvm.Cond.and given_1 narrow_1).before args s = true) {A : Nat → Prop} (hA : ∀ a : Nat, a < s.heap.size → ¬ A a) : ∃ t : Nat, va_Z RX11 "MOST" "[I" (.ref t) A s s.heap ∧ va_T .int t 9 (fun j => .int (hf_M j)) A s s.heap := by
  have hs := flat_of_before _ hgv
  obtain ⟨t, h1, h2⟩ := va_Tof (args := args) (tm := .static RX11 "MOST" "[I") (ty := .int) (N := 9) (f := fun j => .int (hf_M j)) (A := A) (by decide) (hs _ (by decide +kernel)) (va_eqt (z := 9) (hs _ (by decide +kernel)))
    (fun j hj => by
      rcases (show j = 0 ∨ j = 1 ∨ j = 2 ∨ j = 3 ∨ j = 4 ∨ j = 5 ∨ j = 6 ∨ j = 7 ∨ j = 8 by omega) with rfl | rfl | rfl | rfl | rfl | rfl | rfl | rfl | rfl
      · exact va_eqt (t := .elem (.static RX11 "MOST" "[I") (.int 0)) (z := 50000) (hs _ (by decide +kernel))
      · exact va_eqt (t := .elem (.static RX11 "MOST" "[I") (.int 1)) (z := 15) (hs _ (by decide +kernel))
      · exact va_eqt (t := .elem (.static RX11 "MOST" "[I") (.int 2)) (z := 5) (hs _ (by decide +kernel))
      · exact va_eqt (t := .elem (.static RX11 "MOST" "[I") (.int 3)) (z := 5000) (hs _ (by decide +kernel))
      · exact va_eqt (t := .elem (.static RX11 "MOST" "[I") (.int 4)) (z := 300) (hs _ (by decide +kernel))
      · exact va_eqt (t := .elem (.static RX11 "MOST" "[I") (.int 5)) (z := 5000) (hs _ (by decide +kernel))
      · exact va_eqt (t := .elem (.static RX11 "MOST" "[I") (.int 6)) (z := 100) (hs _ (by decide +kernel))
      · exact va_eqt (t := .elem (.static RX11 "MOST" "[I") (.int 7)) (z := 300) (hs _ (by decide +kernel))
      · exact va_eqt (t := .elem (.static RX11 "MOST" "[I") (.int 8)) (z := 20) (hs _ (by decide +kernel))) hA
  exact ⟨t, va_Zref (C := RX11) (n := "MOST") (d := "[I") (hts (.laysStatic RX11 "MOST" "[I") (by decide +kernel)) (hts (.initialized RX11) (by decide +kernel)) h1 hA, h2⟩
set_option maxRecDepth 100000 in
set_option maxHeartbeats 4000000 in
theorem hs_X {args : Array Value} {s : State} (hts : ∀ w ∈ lw_tbl, w.before args s = true) (hgv : (Jvm.Cond.and given_1 narrow_1).before args s = true) {A : Nat → Prop} (hA : ∀ a : Nat, a < s.heap.size → ¬ A a) : ∃ X : tX, h_Kr X s ∧ h_S X A s s.heap := by
  obtain ⟨tU, hU⟩ := xs_U hts hgv hA
  obtain ⟨tL, hL⟩ := hs_LEAST hts hgv hA
  obtain ⟨tM, hM⟩ := hs_MOST hts hgv hA
  have hC : va_Z "java/lang/String" "COMPACT_STRINGS" "Z" (.int 1) A s s.heap := va_Zof (hts (.laysStatic "java/lang/String" "COMPACT_STRINGS" "Z") (by decide +kernel)) (hts (.initialized "java/lang/String") (by decide +kernel)) (va_eqt (z := 1) (flat_of_before _ hgv _ (by decide +kernel))) hA
  obtain ⟨tF, hF⟩ : ∃ tF : Option Nat, va_Z "jdk/internal/util/Preconditions" "SIOOBE_FORMATTER" "Ljava/util/function/BiFunction;" (va_rf tF) A s s.heap := by
    rcases va_Zqof (hts (.laysStatic "jdk/internal/util/Preconditions" "SIOOBE_FORMATTER" "Ljava/util/function/BiFunction;") (by decide +kernel)) (hts (.initialized "jdk/internal/util/Preconditions") (by decide +kernel)) (flat_of_before _ hgv (Cond.isRef (.static "jdk/internal/util/Preconditions" "SIOOBE_FORMATTER" "Ljava/util/function/BiFunction;")) (by decide +kernel)) hA with h | ⟨t, h⟩
    · exact ⟨none, h⟩
    · exact ⟨some t, h⟩
  obtain ⟨adK, adV, hS, hev⟩ := vk_Sof (args := args) (s := s) (N := 10) (tm := h_tm) (len := h_len10) (byt := h_byt10) (A := A) (by decide) (hs_ex hgv) (hs_co hgv) (hs_ar hgv) (hs_le hgv) (hs_el hgv) (hs_ne hgv) hA
  refine ⟨(tU, tL, tM, tF, adK, adV), ⟨?_, va_Nw.of rfl (hts (.fieldLinkNest RX4 77 RX11 "LEAST" "[I" RX11) (by decide +kernel)), va_Nw.of rfl (hts (.fieldLinkNest RX4 81 RX11 "MOST" "[I" RX11) (by decide +kernel))⟩, hU, hL, hM, hC, hF, hS⟩
  intro i q hq
  match i, hq with
  | 0, hq => cases hq; exact vk_R.of (A := args) (hts (.stringRef RX4 126 "cap") (by decide +kernel)) (hev 0 (by decide))
  | 1, hq => cases hq; exact vk_R.of (A := args) (hts (.stringRef RX4 128 "roster") (by decide +kernel)) (hev 1 (by decide))
  | 2, hq => cases hq; exact vk_R.of (A := args) (hts (.stringRef RX4 130 "years") (by decide +kernel)) (hev 2 (by decide))
  | 3, hq => cases hq; exact vk_R.of (A := args) (hts (.stringRef RX4 132 "spare") (by decide +kernel)) (hev 3 (by decide))
  | 4, hq => cases hq; exact vk_R.of (A := args) (hts (.stringRef RX4 134 "match") (by decide +kernel)) (hev 4 (by decide))
  | 5, hq => cases hq; exact vk_R.of (A := args) (hts (.stringRef RX4 136 "hurt") (by decide +kernel)) (hev 5 (by decide))
  | 6, hq => cases hq; exact vk_R.of (A := args) (hts (.stringRef RX4 138 "tax") (by decide +kernel)) (hev 6 (by decide))
  | 7, hq => cases hq; exact vk_R.of (A := args) (hts (.stringRef RX4 140 "lots") (by decide +kernel)) (hev 7 (by decide))
  | 8, hq => cases hq; exact vk_R.of (A := args) (hts (.stringRef RX4 142 "") (by decide +kernel)) (hev 8 (by decide))
  | 9, hq => cases hq; exact vk_R.of (A := args) (hts (.stringRef RX12 125 "cap roster years spare match hurt tax lots ") (by decide +kernel)) (hev 9 (by decide))
  | i + 10, hq => simp [h_str] at hq


