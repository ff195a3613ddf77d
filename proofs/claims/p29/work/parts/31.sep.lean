/-! cells apart: an owned reference has one place; what a call makes is new, and 0 where it isn't told -/
def h_al : List (Nat × Nat) := [(5, 0), (1, 0), (10, 0), (10, 1), (8, 0)]
def h_own (t k : Nat) : Bool := !(h_al.contains (if 50 ≤ t ∧ t < 100 then t - 49 else t, k))
def h_U (z : tZ) : Prop := (∀ a k b : Nat, z.R a k = some b → z.ty b ≠ 0) ∧ (∀ a k : Nat, z.ty a = 0 → z.R a k = none) ∧ (∀ a k a' k' b : Nat, h_own (z.ty a) k = true → h_own (z.ty a') k' = true → z.R a k = some b → z.R a' k' = some b → a = a' ∧ k = k')
def h_V (z0 z : tZ) : Prop := (∀ b : Nat, z.ty b = 0 → z0.ty b = 0) ∧ (∀ a k b : Nat, h_own (z.ty a) k = true → z.R a k = some b → (h_own (z0.ty a) k = true ∧ z0.R a k = some b) ∨ z0.ty b = 0)
def h_Y (M : List (Nat × Nat)) (e : Option Nat) (z0 z : tZ) (I : tI) : Prop := ∀ b k : Nat, z.ty b ≠ 0 → (z0.ty b = 0 ∨ some b = e) → h_m M (z.ty b) k = false → I b k = 0
def h_Q (M : List (Nat × Nat)) (e : Option Nat) (z0 z : tZ) (I : tI) : Prop := h_U z ∧ h_V z0 z ∧ h_Y M e z0 z I
/-- nothing owns it -/
def h_u (z : tZ) (q : Nat) : Prop := ∀ a k : Nat, h_own (z.ty a) k = true → z.R a k ≠ some q
theorem h_m_raw {M : List (Nat × Nat)} {r T : Nat} (h : M.all (fun q => q.1 != r || M.contains (T, q.2)) = true) (k : Nat) (hk : h_m M T k = false) : h_m M r k = false := by
  rw [Bool.eq_false_iff] at hk ⊢
  intro hr
  apply hk
  unfold h_m at hr ⊢
  rw [List.any_eq_true] at hr ⊢
  obtain ⟨q, hq, h1⟩ := hr
  rw [Bool.and_eq_true] at h1
  have h2 := List.all_eq_true.mp h q hq
  rw [Bool.or_eq_true] at h2
  rcases h2 with h2 | h2
  · have : q.1 = r := by simpa using h1.1
    rw [this] at h2
    simp at h2
  · refine ⟨(T, q.2), by simpa using h2, ?_⟩
    rw [Bool.and_eq_true]
    exact ⟨by simp, h1.2⟩
theorem h_Q.rf {M : List (Nat × Nat)} {e : Option Nat} {z : tZ} {I : tI} (hU : h_U z) (he : ∀ b, some b = e → I b = fun _ => 0) : h_Q M e z z I := by
  refine ⟨hU, ⟨fun b h => h, fun a k b h1 h2 => Or.inl ⟨h1, h2⟩⟩, fun b k h1 h2 h3 => ?_⟩
  rcases h2 with h2 | h2
  · exact absurd h2 h1
  · rw [he b h2]
theorem h_Q.tc {M M2 : List (Nat × Nat)} {e : Option Nat} {z0 z : tZ} {I I1 : tI} (h : h_Q M e z0 z I) (h2 : h_F M2 z I I1) (hM : M2.all (fun q => M.contains q) = true) : h_Q M e z0 z I1 :=
  ⟨h.1, h.2.1, fun b k h3 h4 h5 => (h2 b k (h_m_sub hM h5)).trans (h.2.2 b k h3 h4 h5)⟩
theorem h_U.nw {z : tZ} (h : h_U z) {q t : Nat} (h0 : z.ty q = 0) : h_U (z.nw q t (fun _ => none)) := by
  have key : ∀ a k b, (z.nw q t (fun _ => none)).R a k = some b → a ≠ q ∧ z.R a k = some b := by
    intro a k b hr
    by_cases ha : a = q
    · subst ha
      rw [nw_re] at hr
      cases hr
    · rw [nw_rn ha] at hr
      exact ⟨ha, hr⟩
  refine ⟨fun a k b hr => ?_, fun a k ha => ?_, fun a k a' k' b h1 h2 h3 h4 => ?_⟩
  · obtain ⟨ha, hr⟩ := key a k b hr
    have hb := h.1 a k b hr
    rw [nw_tn (fun hq => hb (by rw [hq]; exact h0))]
    exact hb
  · by_cases hq : a = q
    · subst hq
      rw [nw_re]
    · rw [nw_tn hq] at ha
      rw [nw_rn hq]
      exact h.2.1 a k ha
  · obtain ⟨g1, g2⟩ := key a k b h3
    obtain ⟨g3, g4⟩ := key a' k' b h4
    rw [nw_tn g1] at h1
    rw [nw_tn g3] at h2
    exact h.2.2 a k a' k' b h1 h2 g2 g4
theorem h_Q.nw {M : List (Nat × Nat)} {e : Option Nat} {z0 z : tZ} {I : tI} (h : h_Q M e z0 z I) {q t : Nat} (h0 : z.ty q = 0) (ht : t ≠ 0) : h_Q M e z0 (z.nw q t (fun _ => none)) (h_row I q (fun _ => 0)) := by
  refine ⟨h.1.nw h0, ⟨fun b hb => ?_, fun a k b h1 h2 => ?_⟩, fun b k h1 h2 h3 => ?_⟩
  · by_cases hq : b = q
    · subst hq
      rw [nw_te] at hb
      exact absurd hb ht
    · rw [nw_tn hq] at hb
      exact h.2.1.1 b hb
  · by_cases hq : a = q
    · subst hq
      rw [nw_re] at h2
      cases h2
    · rw [nw_tn hq] at h1
      rw [nw_rn hq] at h2
      exact h.2.1.2 a k b h1 h2
  · by_cases hq : b = q
    · subst hq
      rw [h_row_e]
    · rw [nw_tn hq] at h1 h3
      rw [h_row_n hq]
      exact h.2.2 b k h1 h2 h3
theorem h_U.u {z : tZ} (h : h_U z) {q t : Nat} (h0 : z.ty q = 0) : h_u (z.nw q t (fun _ => none)) q := by
  intro a k _ hr
  by_cases ha : a = q
  · subst ha
    rw [nw_re] at hr
    cases hr
  · rw [nw_rn ha] at hr
    exact h.1 a k q hr h0
theorem h_gr_some {q N j b : Nat} (h : h_gr q N j = some b) : j < N ∧ b = q + 1 + j := by
  unfold h_gr at h
  split at h
  · exact ⟨by assumption, (Option.some.inj h).symm⟩
  · cases h
theorem h_ngR {z : tZ} {q t tr N a k b : Nat} (hr : (z.nwg q t tr N).R a k = some b) : (a = q ∧ k < N ∧ b = q + 1 + k) ∨ (¬ (q ≤ a ∧ a ≤ q + N) ∧ z.R a k = some b) := by
  by_cases ha : a = q
  · subst ha
    rw [ng_re] at hr
    obtain ⟨h1, h2⟩ := h_gr_some hr
    exact Or.inl ⟨rfl, h1, h2⟩
  · by_cases hb : q ≤ a ∧ a ≤ q + N
    · have e : (z.nwg q t tr N).R a = fun _ => none := by
        show (if a = q then h_gr q N else if q < a ∧ a ≤ q + N then (fun _ => none) else z.R a) = _
        rw [if_neg ha, if_pos ⟨by omega, hb.2⟩]
      rw [e] at hr
      cases hr
    · rw [ng_rn hb] at hr
      exact Or.inr ⟨hb, hr⟩
theorem h_U.nwg {z : tZ} (h : h_U z) {q t tr N : Nat} (h0 : ∀ b, q ≤ b → b ≤ q + N → z.ty b = 0) (ht : t ≠ 0) (htr : tr ≠ 0) : h_U (z.nwg q t tr N) := by
  refine ⟨fun a k b hr => ?_, fun a k ha => ?_, fun a k a' k' b h1 h2 h3 h4 => ?_⟩
  · rcases h_ngR hr with ⟨_, h2, h3⟩ | ⟨h2, h3⟩
    · rw [h3, ng_tr (by omega) (by omega)]
      exact htr
    · have hb := h.1 a k b h3
      rw [ng_tn (fun hq => hb (h0 b hq.1 hq.2))]
      exact hb
  · cases hr : (z.nwg q t tr N).R a k with
    | none => rfl
    | some b =>
      rcases h_ngR hr with ⟨h1, h2, h3⟩ | ⟨h2, h3⟩
      · subst h1
        rw [ng_te] at ha
        exact absurd ha ht
      · rw [ng_tn h2] at ha
        rw [h.2.1 a k ha] at h3
        cases h3
  · rcases h_ngR h3 with ⟨g1, g2, g3⟩ | ⟨g2, g3⟩
    · rcases h_ngR h4 with ⟨f1, f2, f3⟩ | ⟨f2, f3⟩
      · exact ⟨g1.trans f1.symm, by omega⟩
      · exact absurd (h0 b (by omega) (by omega)) (h.1 a' k' b f3)
    · rcases h_ngR h4 with ⟨f1, f2, f3⟩ | ⟨f2, f3⟩
      · exact absurd (h0 b (by omega) (by omega)) (h.1 a k b g3)
      · rw [ng_tn g2] at h1
        rw [ng_tn f2] at h2
        exact h.2.2 a k a' k' b h1 h2 g3 f3
theorem h_Q.nwg {M : List (Nat × Nat)} {e : Option Nat} {z0 z : tZ} {I : tI} (h : h_Q M e z0 z I) {q t tr N : Nat} (h0 : ∀ b, q ≤ b → b ≤ q + N → z.ty b = 0) (ht : t ≠ 0) (htr : tr ≠ 0) : h_Q M e z0 (z.nwg q t tr N) (h_rows I q N) := by
  have k0 : ∀ b, (z.nwg q t tr N).ty b = 0 → ¬ (q ≤ b ∧ b ≤ q + N) := by
    intro b hb hq
    by_cases e1 : b = q
    · subst e1
      rw [ng_te] at hb
      exact ht hb
    · rw [ng_tr (by omega) hq.2] at hb
      exact htr hb
  refine ⟨h.1.nwg h0 ht htr, ⟨fun b hb => ?_, fun a k b h1 h2 => ?_⟩, fun b k h1 h2 h3 => ?_⟩
  · have := k0 b hb
    rw [ng_tn this] at hb
    exact h.2.1.1 b hb
  · rcases h_ngR h2 with ⟨g1, g2, g3⟩ | ⟨g2, g3⟩
    · exact Or.inr (h.2.1.1 b (h0 b (by omega) (by omega)))
    · rw [ng_tn g2] at h1
      exact h.2.1.2 a k b h1 g3
  · by_cases hq : q ≤ b ∧ b ≤ q + N
    · rw [h_rows_e hq]
    · rw [ng_tn hq] at h1 h3
      rw [h_rows_n hq]
      exact h.2.2 b k h1 h2 h3
theorem h_U.ug {z : tZ} (h : h_U z) {q t tr N : Nat} (h0 : ∀ b, q ≤ b → b ≤ q + N → z.ty b = 0) : h_u (z.nwg q t tr N) q := by
  intro a k _ hr
  rcases h_ngR hr with ⟨g1, g2, g3⟩ | ⟨g2, g3⟩
  · omega
  · exact h.1 a k q g3 (h0 q (Nat.le_refl _) (Nat.le_add_right _ _))
theorem h_wRR {z : tZ} {a k v a' k' b : Nat} (hr : (z.wR a k (some v)).R a' k' = some b) : (a' = a ∧ k' = k ∧ b = v) ∨ z.R a' k' = some b := by
  by_cases ha : a' = a
  · subst ha
    by_cases hk : k' = k
    · subst hk
      rw [show (z.wR a' k' (some v)).R a' k' = some v from h_up_eq] at hr
      exact Or.inl ⟨rfl, rfl, (Option.some.inj hr).symm⟩
    · rw [show (z.wR a' k (some v)).R a' k' = z.R a' k' from h_up_at hk] at hr
      exact Or.inr hr
  · rw [show (z.wR a k (some v)).R a' = z.R a' from h_up_ne ha] at hr
    exact Or.inr hr
theorem h_Q.wR {M : List (Nat × Nat)} {e : Option Nat} {z0 z : tZ} {I : tI} (h : h_Q M e z0 z I) {a k v : Nat} {t t' : Nat} (ha : z.ty a = t) (ht : t ≠ 0) (hv : z.ty v = t') (ht' : t' ≠ 0) (ho : h_own t k = true → h_u z v ∧ z0.ty v = 0) : h_Q M e z0 (z.wR a k (some v)) I := by
  rw [← ha] at ho ht
  rw [← hv] at ht'
  refine ⟨⟨fun a' k' b hr => ?_, fun a' k' h0 => ?_, fun a1 k1 a2 k2 b h1 h2 h3 h4 => ?_⟩, ⟨h.2.1.1, fun a' k' b h1 h2 => ?_⟩, h.2.2⟩
  · rcases h_wRR hr with ⟨_, _, g⟩ | g
    · rw [g]
      exact ht'
    · exact h.1.1 a' k' b g
  · have hn : a' ≠ a := fun q => by
      subst q
      exact ht h0
    rw [show (z.wR a k (some v)).R a' = z.R a' from h_up_ne hn]
    exact h.1.2.1 a' k' h0
  · rcases h_wRR h3 with ⟨g1, g2, g3⟩ | g
    · rcases h_wRR h4 with ⟨f1, f2, f3⟩ | f
      · exact ⟨g1.trans f1.symm, g2.trans f2.symm⟩
      · subst g1
        subst g2
        subst g3
        exact absurd f ((ho h1).1 a2 k2 h2)
    · rcases h_wRR h4 with ⟨f1, f2, f3⟩ | f
      · subst f1
        subst f2
        subst f3
        exact absurd g ((ho h2).1 a1 k1 h1)
      · exact h.1.2.2 a1 k1 a2 k2 b h1 h2 g f
  · rcases h_wRR h2 with ⟨g1, g2, g3⟩ | g
    · subst g1
      subst g2
      subst g3
      exact Or.inr (ho h1).2
    · exact h.2.1.2 a' k' b h1 g
theorem h_own_rt (r k : Nat) (h5 : 50 ≤ r) (h1 : r < 99) : h_own r k = h_own (r - 49) k := by
  unfold h_own
  rw [if_pos ⟨h5, by omega⟩, if_neg (by omega)]
theorem h_Q.rt {M : List (Nat × Nat)} {e : Option Nat} {z0 z : tZ} {I : tI} (h : h_Q M e z0 z I) {a t r : Nat} (ha : z.ty a = r) (h5 : 50 ≤ r) (h1 : r < 99) (ht : t = r - 49) (hm : M.all (fun q => q.1 != r || M.contains (t, q.2)) = true) : h_Q M e z0 (z.rt a t) I := by
  have ho : ∀ b k, h_own ((z.rt a t).ty b) k = h_own (z.ty b) k := by
    intro b k
    by_cases hb : b = a
    · subst hb
      rw [rt_e, ha, ht, h_own_rt r k h5 h1]
    · rw [rt_n hb]
  have h0 : ∀ b, (z.rt a t).ty b = 0 ↔ z.ty b = 0 := by
    intro b
    by_cases hb : b = a
    · subst hb
      rw [rt_e, ha]
      omega
    · rw [rt_n hb]
  refine ⟨⟨fun a' k' b hr => fun q => h.1.1 a' k' b hr ((h0 b).mp q), fun a' k' q => h.1.2.1 a' k' ((h0 a').mp q), fun a1 k1 a2 k2 b g1 g2 g3 g4 => ?_⟩, ⟨fun b q => h.2.1.1 b ((h0 b).mp q), fun a' k' b g1 g2 => ?_⟩, fun b k g1 g2 g3 => ?_⟩
  · rw [ho] at g1 g2
    exact h.1.2.2 a1 k1 a2 k2 b g1 g2 g3 g4
  · rw [ho] at g1
    exact h.2.1.2 a' k' b g1 g2
  · by_cases hb : b = a
    · subst hb
      rw [rt_e] at g3
      exact h.2.2 b k (fun q => g1 ((h0 b).mpr q)) g2 (by rw [ha]; exact h_m_raw hm k g3)
    · rw [rt_n hb] at g1 g3
      exact h.2.2 b k g1 g2 g3
theorem h_Q.call {M M2 M3 : List (Nat × Nat)} {MR : List Nat} {e e2 : Option Nat} {z0 z z1 : tZ} {I I1 : tI} {L L1 : tL} (h : h_Q M e z0 z I) (x : h_X M2 MR e2 z I L z1 I1 L1) (q : h_Q M3 e2 z z1 I1) (hM2 : M2.all (fun q => M.contains q) = true) (hM3 : M3.all (fun q => M.contains q) = true) : h_Q M e z0 z1 I1 := by
  refine ⟨q.1, ⟨fun b hb => h.2.1.1 b (q.2.1.1 b hb), fun a k b h1 h2 => ?_⟩, fun b k h1 h2 h3 => ?_⟩
  · rcases q.2.1.2 a k b h1 h2 with ⟨g1, g2⟩ | g
    · exact h.2.1.2 a k b g1 g2
    · exact Or.inr (h.2.1.1 b g)
  · by_cases hb : z.ty b = 0 ∨ some b = e2
    · exact q.2.2 b k h1 hb (h_m_sub hM3 h3)
    · have hz : z.ty b ≠ 0 := fun g => hb (Or.inl g)
      obtain ⟨x1, _, x3, _⟩ := x b hz (fun g => hb (Or.inr g))
      rw [x1] at h3
      rw [x3 k (h_m_sub hM2 h3)]
      exact h.2.2 b k hz h2 h3
theorem h_u.call {z z1 : tZ} {q t : Nat} (h : h_u z q) (v : h_V z z1) (hq : z.ty q = t) (ht : t ≠ 0) : h_u z1 q := by
  intro a k ho hr
  rcases v.2 a k q ho hr with ⟨g1, g2⟩ | g
  · exact h a k g1 g2
  · exact ht (hq.symm.trans g)
theorem h_u.wR {z : tZ} {a k v q : Nat} (h : h_u z q) (hv : v ≠ q) : h_u (z.wR a k (some v)) q := by
  intro a' k' ho hr
  rcases h_wRR hr with ⟨_, _, g⟩ | g
  · exact hv g.symm
  · exact h a' k' ho g
/-- all of the heap: 0 where it isn't told -/
def h_0 (M : List (Nat × Nat)) (z : tZ) (I : tI) : Prop := ∀ b k : Nat, z.ty b ≠ 0 → h_m M (z.ty b) k = false → I b k = 0
theorem h_0.nw {M : List (Nat × Nat)} {z : tZ} {I : tI} (h : h_0 M z I) {q t : Nat} {f : Nat → Option Nat} : h_0 M (z.nw q t f) (h_row I q (fun _ => 0)) := by
  intro b k h1 h2
  by_cases hq : b = q
  · subst hq
    rw [h_row_e]
  · rw [nw_tn hq] at h1 h2
    rw [h_row_n hq]
    exact h b k h1 h2
theorem h_0.call {M M' M2 M3 : List (Nat × Nat)} {MR : List Nat} {e2 : Option Nat} {z z1 : tZ} {I I1 : tI} {L L1 : tL} (h : h_0 M z I) (x : h_X M2 MR e2 z I L z1 I1 L1) (q : h_Q M3 e2 z z1 I1) (hM : M.all (fun q => M'.contains q) = true) (hM2 : M2.all (fun q => M'.contains q) = true) (hM3 : M3.all (fun q => M'.contains q) = true) : h_0 M' z1 I1 := by
  intro b k h1 h3
  by_cases hb : z.ty b = 0 ∨ some b = e2
  · exact q.2.2 b k h1 hb (h_m_sub hM3 h3)
  · have hz : z.ty b ≠ 0 := fun g => hb (Or.inl g)
    obtain ⟨x1, _, x3, _⟩ := x b hz (fun g => hb (Or.inr g))
    rw [x1] at h3
    rw [x3 k (h_m_sub hM2 h3)]
    exact h b k hz (h_m_sub hM h3)
theorem h_0.at {M : List (Nat × Nat)} {z : tZ} {I : tI} (h : h_0 M z I) {b t k : Nat} (hb : z.ty b = t) (ht : t ≠ 0) (hm : h_m M t k = false) : I b k = 0 := h b k (by rw [hb]; exact ht) (by rw [hb]; exact hm)
theorem h_U.ne {z : tZ} (h : h_U z) {a k a' k' b b' : Nat} {t t' : Nat} (ha : z.ty a = t) (ha' : z.ty a' = t') (ho : h_own t k = true) (ho' : h_own t' k' = true) (hr : z.R a k = some b) (hr' : z.R a' k' = some b') (hn : a ≠ a' ∨ k ≠ k') : b ≠ b' := by
  intro hb
  subst hb
  obtain ⟨h1, h2⟩ := h.2.2 a k a' k' b (by rw [ha]; exact ho) (by rw [ha']; exact ho') hr hr'
  rcases hn with hn | hn
  · exact hn h1
  · exact hn h2
theorem h_wRf {z : tZ} {a k : Nat} {v : Option Nat} {f : Nat → Option Nat} (h : z.R a = f) : (z.wR a k v).R a = fun j => if j = k then v else f j := by
  funext j
  show (if a = a then (if j = k then v else z.R a j) else z.R a j) = _
  rw [if_pos rfl, h]

