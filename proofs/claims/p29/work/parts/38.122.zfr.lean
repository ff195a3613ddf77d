/-! what is untouched; what is new -/
theorem h_m_k {M : List (Nat × Nat)} (h : M.all (fun q => q.1 == 6 || q.1 == 600 || q.1 == 601) = true) {t k : Nat} (h6 : t ≠ 6) (h600 : t ≠ 600) (h601 : t ≠ 601) : h_m M t k = false := by
  rw [Bool.eq_false_iff]
  intro hm
  unfold h_m at hm
  rw [List.any_eq_true] at hm
  obtain ⟨q, hq, h1⟩ := hm
  rw [Bool.and_eq_true] at h1
  have h2 := List.all_eq_true.mp h q hq
  have h3 : q.1 = t := by simpa using h1.1
  rw [h3] at h2
  simp [h6, h600, h601] at h2
theorem h_ap.all {M : List (Nat × Nat)} {z : tZ} {I I1 : tI} {a n l : Nat} (h : h_ap z I I1 a n l) (f : h_F M z I I1) (hM : M.all (fun q => q.1 == 6 || q.1 == 600 || q.1 == 601) = true) {b k : Nat} (ha : b ≠ a) (hn : b ≠ n) (hl : b ≠ l) : I1 b k = I b k := by
  by_cases h6 : z.ty b = 6
  · exact h b k (Or.inl ⟨h6, ha⟩)
  · by_cases h600 : z.ty b = 600
    · exact h b k (Or.inr (Or.inl ⟨h600, hn⟩))
    · by_cases h601 : z.ty b = 601
      · exact h b k (Or.inr (Or.inr ⟨h601, hl⟩))
      · exact f b k (h_m_k hM h6 h600 h601)
/-- as above, over any list, for cells of these kinds alone -/
theorem h_ap.kin {z : tZ} {I I1 : tI} {a n l : Nat} (h : h_ap z I I1 a n l) {b k : Nat} (hb : z.ty b = 6 ∨ z.ty b = 600 ∨ z.ty b = 601) (ha : b ≠ a) (hn : b ≠ n) (hl : b ≠ l) : I1 b k = I b k := by
  rcases hb with h6 | h6 | h6
  · exact h b k (Or.inl ⟨h6, ha⟩)
  · exact h b k (Or.inr (Or.inl ⟨h6, hn⟩))
  · exact h b k (Or.inr (Or.inr ⟨h6, hl⟩))
theorem h_Q.new {M : List (Nat × Nat)} {e : Option Nat} {z0 z : tZ} {I : tI} (hQ : h_Q M e z0 z I) (hU : h_U z0) {a k b t : Nat} (h0 : z0.ty a = 0) (ta : z.ty a = t) (ho : h_own t k = true) (hr : z.R a k = some b) : z0.ty b = 0 := by
  rcases hQ.2.1.2 a k b (by rw [ta]; exact ho) hr with ⟨_, h⟩ | h
  · rw [hU.2.1 a k h0] at h
    cases h
  · exact h
theorem h_same {R : Nat → Option Nat} {j t : Nat} (h : R j = some t) : R = fun k => if k = j then some t else R k := by
  funext k
  by_cases hk : k = j
  · rw [if_pos hk, hk]
    exact h
  · rw [if_neg hk]
theorem h_lw.w {z : tZ} {I I1 : tI} {a n l b k : Nat} {v : Int32} {u : Nat → Int} (h : h_lw I a n l u) (e : I1 = h_up I b k v) {t : Nat} (tb : z.ty b = t) (ta : z.ty a = 6) (tn : z.ty n = 600) (tl : z.ty l = 601) (h6 : t ≠ 6) (h600 : t ≠ 600) (h601 : t ≠ 601) : h_lw I1 a n l u := h.c (fun i => h_n1 e tn tb (fun h => h600 h.symm)) (h_n1 e ta tb (fun h => h6 h.symm)) (fun i => h_n1 e tl tb (fun h => h601 h.symm))
theorem h_R.opt {z : tZ} (h : h_R z) {a k t t' b : Nat} (ha : z.ty a = t) (hb : h_rs t k = some (t', true)) (hk : k < h_len (h_so t)) (hr : z.R a k = some b) : z.ty b = t' := by
  rw [← ha] at hb hk
  rcases h a k t' true hb hk with ⟨_, h1⟩ | ⟨c, h1, h2⟩
  · rw [hr] at h1
    cases h1
  · rw [hr] at h1
    cases h1
    exact h2

