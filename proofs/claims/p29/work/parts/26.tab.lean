/-! the table: eight bytes, all clubs seen -/
def h_pc (n : Nat) : Nat := (List.range 8).countP (fun c => n.testBit c)
theorem h_orb {x c v v2 : Int32} (hx0 : 0 ≤ x.toInt) (hx : x.toInt ≤ 255) (hc0 : 0 ≤ c.toInt) (hc : c.toInt ≤ 7) (e1 : v = (1 : Int32) <<< (c &&& 31)) (e2 : v2 = x ||| v) : 0 ≤ v2.toInt ∧ v2.toInt ≤ 255 ∧ v2.toInt.toNat = x.toInt.toNat ||| 2 ^ c.toInt.toNat := by
  obtain ⟨a, ha⟩ : ∃ n : Nat, x.toInt = n := ⟨x.toInt.toNat, by omega⟩
  obtain ⟨b, hb⟩ : ∃ n : Nat, c.toInt = n := ⟨c.toInt.toNat, by omega⟩
  have ex : x = nI a := xi_of (by rw [ha, nI_toInt (by omega)])
  have ec : c = nI b := xi_of (by rw [hb, nI_toInt (by omega)])
  have key : ∀ i : Nat, i < 256 → ∀ j : Nat, j < 8 → (nI i ||| ((1 : Int32) <<< (nI j &&& 31)) = nI (i ||| 2 ^ j)) ∧ (i ||| 2 ^ j) < 256 := by decide +kernel
  obtain ⟨k1, k2⟩ := key a (by omega) b (by omega)
  have e3 : v2 = nI (a ||| 2 ^ b) := by rw [e2, e1, ex, ec, k1]
  have e4 : v2.toInt = ((a ||| 2 ^ b : Nat) : Int) := by rw [e3, nI_toInt (by omega)]
  rw [e4, ha, hb]
  refine ⟨by omega, by omega, ?_⟩
  simp
theorem h_pc_or : ∀ i : Nat, i < 256 → ∀ j : Nat, j < 8 → h_pc (i ||| 2 ^ j) ≤ h_pc i + 1 := by decide +kernel
def h_tbI (f : Nat → Int32) (x i : Int) : Prop := (∀ c : Nat, c < 8 → x.toNat.testBit c = true → ∃ k : Nat, (k : Int) < i ∧ k < 8 ∧ (f k).toInt = 65 + c) ∧ (h_pc x.toNat : Int) ≤ i ∧ (∀ k : Nat, (k : Int) < i → ¬ (65 ≤ (f k).toInt ∧ (f k).toInt ≤ 72) → (h_pc x.toNat : Int) + 1 ≤ i)
theorem h_tbI.zero (f : Nat → Int32) : h_tbI f 0 0 := by
  refine ⟨fun c h1 h2 => ?_, by decide, fun k h => by omega⟩
  simp at h2
theorem h_tbI.all {f : Nat → Int32} {x i : Int} (h : h_tbI f x i) (hx : x = 255) (hi : i = 8) : (∀ k : Nat, k < 8 → 65 ≤ (f k).toInt ∧ (f k).toInt ≤ 72) ∧ (∀ c : Nat, c < 8 → ∃ k : Nat, k < 8 ∧ (f k).toInt = 65 + c) := by
  obtain ⟨h1, h2, h3⟩ := h
  subst hx
  subst hi
  have hp : h_pc (255 : Int).toNat = 8 := by decide
  refine ⟨fun k hk => ?_, fun c hc => ?_⟩
  · refine Decidable.byContradiction (fun hn => ?_)
    have := h3 k (by omega) hn
    omega
  · have hb : ∀ c : Nat, c < 8 → (255 : Int).toNat.testBit c = true := by decide
    obtain ⟨k, -, a, b⟩ := h1 c hc (hb c hc)
    exact ⟨k, a, b⟩

