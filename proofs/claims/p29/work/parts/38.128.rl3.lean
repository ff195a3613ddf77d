/-! laws of a year, whatever the year's number; tables -/
theorem h_bk.any {z : tZ} {I : tI} {tx un lw hy : Nat} (h : h_bk z I tx un lw hy) (y : Int) : ∃ u : Nat → Int, q_ok u ∧ (0 ≤ y → y ≤ 9 → h_r12 (I hy) (I lw) y u) ∧ ∀ b : Nat, h_of (z.R tx) un y b → h_lw I b (h_ad z b 0) (h_ad z b 1) u := by
  by_cases h0 : 0 ≤ y
  · by_cases h9 : y ≤ 9
    · obtain ⟨u, a1, a2, a3⟩ := h.get y h0 h9
      exact ⟨u, a1, fun _ _ => a2, a3⟩
    · obtain ⟨u, a1, a2, a3⟩ := h.get 9 (by decide) (by decide)
      refine ⟨u, a1, fun _ q => absurd q h9, fun b hb => a3 b ?_⟩
      rcases hb with ⟨k, k1, k2, k3, k4⟩ | ⟨k1, k2⟩
      · exact Or.inl ⟨k, k1, by omega, k3, fun j j1 j2 j3 => k4 j j1 j2 (by omega)⟩
      · exact Or.inr ⟨k1, fun j j1 j2 => k2 j j1 (by omega)⟩
  · refine ⟨_, h.2.2, fun q _ => absurd q h0, fun b hb => ?_⟩
    rcases hb with ⟨k, k1, k2, k3, k4⟩ | ⟨k1, k2⟩
    · omega
    · rw [k1]
      exact h.2.1
theorem h_law2 {u : Nat → Int} {y_t x_t : Int} {f g : Nat → Int32} {r1 r2 : Int32} (hok : q_ok u) (hr : 0 ≤ y_t → y_t ≤ 9 → h_r12 f g y_t u) (p : (0 ≤ y_t ∧ y_t ≤ 9 ∧ r1.toInt = q_num u x_t) ∨ (¬ (0 ≤ y_t ∧ y_t ≤ 9) ∧ r1.toInt = -9)) (q : (∀ u : Nat → Int, h_r12 f g y_t u → q_ok u → (0 ≤ y_t ∧ y_t ≤ 9 ∧ r2.toInt = q_num u x_t) ∨ (¬ (0 ≤ y_t ∧ y_t ≤ 9) ∧ r2.toInt = -9)) ∧ ((0 ≤ y_t ∧ y_t ≤ 9) ∨ r2.toInt = -9)) : r1.toInt = r2.toInt := by
  rcases p with ⟨p1, p2, p3⟩ | ⟨p1, p2⟩
  · rcases q.1 u (hr p1 p2) hok with ⟨q1, q2, q3⟩ | ⟨q1, q2⟩
    · rw [p3, q3]
    · exact absurd ⟨p1, p2⟩ q1
  · rcases q.2 with q1 | q1
    · exact absurd q1 p1
    · rw [p2, q1]
theorem h_tabJ {I I1 : tI} {mo tb : Nat} {g : Int → Int} {n : Int} {r : Int32} (J : (I mo 30).toInt = 1 → ∀ c : Int, 0 ≤ c → c ≤ 7 → ∃ k : Nat, k < 8 ∧ (I tb k).toInt = c) (q : ((I mo 31).toInt = 1 ∧ r.toInt = -4 ∧ (∀ k : Nat, I1 tb k = I tb k) ∧ I1 mo 30 = I mo 30) ∨ ((I mo 31).toInt = 0 ∧ ¬ h_istab g n ∧ r.toInt = -1 ∧ (∀ k : Nat, I1 tb k = I tb k) ∧ I1 mo 30 = I mo 30) ∨ ((I mo 31).toInt = 0 ∧ h_istab g n ∧ r.toInt = 1 ∧ (∀ j : Nat, j < 8 → (I1 tb j).toInt = g j - 65) ∧ I1 mo 30 = 1)) : (I1 mo 30).toInt = 1 → ∀ c : Int, 0 ≤ c → c ≤ 7 → ∃ k : Nat, k < 8 ∧ (I1 tb k).toInt = c := by
  intro h c h0 h7
  rcases q with ⟨_, _, q3, q4⟩ | ⟨_, _, _, q3, q4⟩ | ⟨_, it, _, q3, q4⟩
  · rw [q4] at h
    obtain ⟨k, k1, k2⟩ := J h c h0 h7
    exact ⟨k, k1, by rw [q3 k]; exact k2⟩
  · rw [q4] at h
    obtain ⟨k, k1, k2⟩ := J h c h0 h7
    exact ⟨k, k1, by rw [q3 k]; exact k2⟩
  · obtain ⟨k, k1, k2⟩ := q_tab_all it c h0 h7
    exact ⟨k, k1, by rw [q3 k k1]; exact k2⟩
theorem h_bk.F {M : List (Nat × Nat)} {z : tZ} {I I1 : tI} {tx un lw hy : Nat} (h : h_bk z I tx un lw hy) (hR : h_R z) (ttx : z.ty tx = 401) (tun : z.ty un = 6) (tlw : z.ty lw = 1310) (thy : z.ty hy = 1311) (f : h_F M z I I1) (h6 : ∀ k, h_m M 6 k = false) (h600 : ∀ k, h_m M 600 k = false) (h601 : ∀ k, h_m M 601 k = false) (hl : ∀ k, h_m M 1310 k = false) (hh : ∀ k, h_m M 1311 k = false) : h_bk z I1 tx un lw hy :=
  h.c hR ttx tun rfl (fun _ _ => rfl) (fun b k hb => by
    rcases hb with q | q | q
    · exact f.at q (h6 k)
    · exact f.at q (h600 k)
    · exact f.at q (h601 k)) (fun k _ => f.at tlw (hl k)) (fun k => f.at thy (hh k))
theorem h_bk.X {M : List (Nat × Nat)} {MR : List Nat} {z z1 : tZ} {I I1 : tI} {L L1 : tL} {tx un lw hy : Nat} (h : h_bk z I tx un lw hy) (hR : h_R z) (ttx : z.ty tx = 401) (tun : z.ty un = 6) (tlw : z.ty lw = 1310) (thy : z.ty hy = 1311) (x : h_X M MR none z I L z1 I1 L1) (m1 : MR.contains 401 = false) (m2 : MR.contains 6 = false) (h6 : ∀ k, h_m M 6 k = false) (h600 : ∀ k, h_m M 600 k = false) (h601 : ∀ k, h_m M 601 k = false) (hl : ∀ k, h_m M 1310 k = false) (hh : ∀ k, h_m M 1311 k = false) : h_bk z1 I1 tx un lw hy := by
  have no : ∀ b : Nat, some b ≠ none := fun b q => by cases q
  exact h.c hR ttx tun ((x tx (by rw [ttx]; decide) (no _)).2.1 (by rw [ttx]; exact m1)) (fun b hb => (x b (by rw [hb]; decide) (no _)).2.1 (by rw [hb]; exact m2)) (fun b k hb => by
    rcases hb with q | q | q
    · exact x.I q (by decide) (no _) (h6 k)
    · exact x.I q (by decide) (no _) (h600 k)
    · exact x.I q (by decide) (no _) (h601 k)) (fun k _ => x.I tlw (by decide) (no _) (hl k)) (fun k => x.I thy (by decide) (no _) (hh k))

