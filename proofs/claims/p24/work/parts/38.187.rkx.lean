/-! places of a club: small sums -/
def r_kq (a b : Nat) : Prop := a = b
theorem kx_s {v w : Int} {s : Nat} (h : w = v + 1) (h0 : (s : Int) ≤ v) : w.toNat - s = v.toNat - s + 1 := by omega
theorem kx_z {v : Int} {s : Nat} (h : v = (s : Int)) : v.toNat - s = 0 := by omega
theorem kx_lt {v : Int} {s d : Nat} (h1 : (s : Int) ≤ v) (h2 : v < (s : Int) + (d : Int)) : v.toNat - s < d := by omega
theorem kx_e {v : Int} {s k : Nat} (h : k = v.toNat - s) (h1 : (s : Int) ≤ v) : s + k = v.toNat := by omega
theorem kx_p {v : Int} {p : Nat} (h : v = (p : Int)) : p = v.toNat := by omega
theorem kx_n {v : Int} {s d : Nat} (h1 : (s : Int) + (d : Int) ≤ v) (h2 : v ≤ (s : Int) + (d : Int)) : v.toNat - s = d := by omega

