/-! the books of laws of both: what they have in common -/
def h_bk (z : tZ) (I : tI) (tx un lw hy : Nat) : Prop := (∀ y : Nat, y < 10 → (z.R tx y = none ∧ (I hy y).toInt = 0) ∨ ∃ b : Nat, z.R tx y = some b ∧ (I hy y).toInt = 1 ∧ h_lw I b (h_ad z b 0) (h_ad z b 1) (fun i => (I lw (16 * y + i)).toInt) ∧ q_ok (fun i => (I lw (16 * y + i)).toInt)) ∧ h_lw I un (h_ad z un 0) (h_ad z un 1) (fun i => (I lw (176 + i)).toInt) ∧ q_ok (fun i => (I lw (176 + i)).toInt)
theorem h_lw.u {I : tI} {a n l : Nat} {u v : Nat → Int} (h : h_lw I a n l u) (e : ∀ i : Nat, i < 16 → u i = v i) : h_lw I a n l v := by
  obtain ⟨h1, h2, h3⟩ := h
  refine ⟨fun i hi => (h1 i hi).trans (e i (by omega)), h2.trans (e 8 (by omega)), fun i hi hc => (h3 i hi (by rw [e 8 (by omega)]; exact hc)).trans (e (9 + i) (by omega))⟩
theorem q_ok.u {u v : Nat → Int} (h : q_ok u) (e : ∀ i : Nat, i < 16 → u i = v i) : q_ok v := by
  obtain ⟨h1, h2, h3⟩ := h
  have e8 := e 8 (by omega)
  refine ⟨by omega, by omega, fun i hi => ?_⟩
  rw [← e (9 + i) (by omega)]
  exact h3 i (by omega)
theorem h_lw.z {z z1 : tZ} {I I1 : tI} {b : Nat} {u : Nat → Int} (h : h_lw I b (h_ad z b 0) (h_ad z b 1) u) (hR : h_R z) (tb : z.ty b = 6) (e6 : z1.R b = z.R b) (eI : ∀ c k : Nat, z.ty c = 6 ∨ z.ty c = 600 ∨ z.ty c = 601 → c = b ∨ z.R b 0 = some c ∨ z.R b 1 = some c → I1 c k = I c k) : h_lw I1 b (h_ad z1 b 0) (h_ad z1 b 1) u := by
  obtain ⟨n, rn, tn⟩ := hR.at b 0 tb (rfl : h_rs 6 0 = some (600, false)) (by decide)
  obtain ⟨l, rl, tl⟩ := hR.at b 1 tb (rfl : h_rs 6 1 = some (601, false)) (by decide)
  rw [h_ad.at rn, h_ad.at rl] at h
  rw [h_ad.at (show z1.R b 0 = some n by rw [e6]; exact rn), h_ad.at (show z1.R b 1 = some l by rw [e6]; exact rl)]
  exact h.c (fun i => eI n i (Or.inr (Or.inl tn)) (Or.inr (Or.inl rn))) (eI b 2 (Or.inl tb) (Or.inl rfl)) (fun i => eI l i (Or.inr (Or.inr tl)) (Or.inr (Or.inr rl)))
theorem h_bk.c {z z1 : tZ} {I I1 : tI} {tx un lw hy : Nat} (h : h_bk z I tx un lw hy) (hR : h_R z) (ttx : z.ty tx = 401) (tun : z.ty un = 6) (eR : z1.R tx = z.R tx) (e6 : ∀ b : Nat, z.ty b = 6 → z1.R b = z.R b) (eI : ∀ b k : Nat, z.ty b = 6 ∨ z.ty b = 600 ∨ z.ty b = 601 → I1 b k = I b k) (el : ∀ k : Nat, (k < 160 ∨ 176 ≤ k) → I1 lw k = I lw k) (ey : ∀ k : Nat, I1 hy k = I hy k) : h_bk z1 I1 tx un lw hy := by
  obtain ⟨h1, h2, h3⟩ := h
  refine ⟨fun y h10 => ?_, (h2.z hR tun (e6 un tun) (fun c k hc _ => eI c k hc)).u (fun i hi => by rw [el (176 + i) (by omega)]), h3.u (fun i hi => by rw [el (176 + i) (by omega)])⟩
  rcases h1 y h10 with ⟨a1, a2⟩ | ⟨b, a1, a2, a3, a4⟩
  · exact Or.inl ⟨by rw [eR]; exact a1, by rw [ey]; exact a2⟩
  · have tb : z.ty b = 6 := hR.opt ttx (rfl : h_rs 401 y = some (6, true)) (by rw [so_401]; exact h10) a1
    exact Or.inr ⟨b, by rw [eR]; exact a1, by rw [ey]; exact a2, (a3.z hR tb (e6 b tb) (fun c k hc _ => eI c k hc)).u (fun i hi => by rw [el (16 * y + i) (by omega)]), a4.u (fun i hi => by rw [el (16 * y + i) (by omega)])⟩
theorem h_bk.get {z : tZ} {I : tI} {tx un lw hy : Nat} (h : h_bk z I tx un lw hy) (y : Int) (h0 : 0 ≤ y) (h9 : y ≤ 9) : ∃ u : Nat → Int, q_ok u ∧ h_r12 (I hy) (I lw) y u ∧ ∀ b : Nat, h_of (z.R tx) un y b → h_lw I b (h_ad z b 0) (h_ad z b 1) u := by
  obtain ⟨h1, h2, h3⟩ := h
  obtain ⟨q, hq⟩ := h_blk.ex (I hy) y.toNat
  rcases hq with ⟨q1, q2, q3⟩ | ⟨q1, q2⟩
  · rcases h1 q (by omega) with ⟨a1, a2⟩ | ⟨b, a1, a2, a3, a4⟩
    · exact absurd (h_k (k := 0) a2 (by decide)) q2
    · refine ⟨_, a4, Or.inl ⟨q, by omega, by omega, a2, fun j j1 j2 => by rw [q3 j j1 (by omega)]; decide, fun i _ => rfl⟩, fun b' hb => ?_⟩
      rcases hb with ⟨k, k1, k2, k3, k4⟩ | ⟨k1, k2⟩
      · have hk : k = q := by
          rcases Nat.lt_trichotomy k q with hlt | heq | hgt
          · rw [k4 q hlt (by omega) (by omega)] at a1
            cases a1
          · exact heq
          · rcases h1 k k1 with ⟨c1, _⟩ | ⟨c, c1, c2, _⟩
            · rw [k3] at c1
              cases c1
            · rw [q3 k hgt (by omega)] at c2
              exact absurd c2 (by decide)
        subst hk
        rw [k3] at a1
        cases a1
        exact a3
      · rw [k2 q (by omega) (by omega)] at a1
        cases a1
  · refine ⟨_, h3, Or.inr ⟨fun j hj => by rw [q2 j (by omega)]; decide, fun i _ => rfl⟩, fun b' hb => ?_⟩
    rcases hb with ⟨k, k1, k2, k3, k4⟩ | ⟨k1, k2⟩
    · rcases h1 k k1 with ⟨c1, _⟩ | ⟨c, c1, c2, _⟩
      · rw [k3] at c1
        cases c1
      · rw [q2 k (by omega)] at c2
        exact absurd c2 (by decide)
    · rw [k1]
      exact h2
/-- a text that isn't the reader's, nor that of the year: untouched -/
theorem h_bk.key {z z1 : tZ} {I I1 : tI} {tx rd rl rn ro y a k0 b : Nat} {u : Nat → Int} (hU : h_U z) (hR : h_R z) (ttx : z.ty tx = 401) (trd : z.ty rd = 5) (trl : z.ty rl = 6) (trn : z.ty rn = 600) (tro : z.ty ro = 601) (rrl : z.R rd 1 = some rl) (rrn : z.R rl 0 = some rn) (rro : z.R rl 1 = some ro) (hy : y < 10) (D : Nat → Prop) (hD : ∀ t : Nat, D t → z.R tx y = some t)
    (fr : ∀ b k : Nat, (z.ty b = 6 ∨ z.ty b = 600 ∨ z.ty b = 601) → b ≠ rl → b ≠ rn → b ≠ ro → (∀ t : Nat, D t → b ≠ t ∧ b ≠ h_ad z t 0 ∧ b ≠ h_ad z t 1) → I1 b k = I b k) (e6 : ∀ b : Nat, z.ty b = 6 → z1.R b = z.R b)
    (ho : h_own (z.ty a) k0 = true) (ha : z.R a k0 = some b) (tb : z.ty b = 6) (h1 : a ≠ rd) (h2 : a ≠ tx ∨ k0 ≠ y) (h : h_lw I b (h_ad z b 0) (h_ad z b 1) u) : h_lw I1 b (h_ad z1 b 0) (h_ad z1 b 1) u := by
  have ne : ∀ (p j p' j' x x' : Nat), h_own (z.ty p) j = true → h_own (z.ty p') j' = true → z.R p j = some x → z.R p' j' = some x' → (p ≠ p' ∨ j ≠ j') → x ≠ x' := by
    intro p j p' j' x x' g1 g2 g3 g4 g5 g6
    subst g6
    have := hU.2.2 p j p' j' x g1 g2 g3 g4
    omega
  have kn : ∀ (x x' t t' : Nat), z.ty x = t → z.ty x' = t' → t ≠ t' → x ≠ x' := by
    intro x x' t t' g1 g2 g3 g4
    subst g4
    exact g3 (g1.symm.trans g2)
  have b1 : b ≠ rl := ne a k0 rd 1 b rl ho (by rw [trd]; rfl) ha rrl (Or.inl h1)
  have own : ∀ t : Nat, D t → z.ty t = 6 ∧ b ≠ t ∧ ∃ n l : Nat, z.R t 0 = some n ∧ z.R t 1 = some l ∧ z.ty n = 600 ∧ z.ty l = 601 := by
    intro t ht
    have r := hD t ht
    have tt : z.ty t = 6 := hR.opt ttx (rfl : h_rs 401 y = some (6, true)) (by rw [so_401]; exact hy) r
    obtain ⟨n, rn', tn⟩ := hR.at t 0 tt (rfl : h_rs 6 0 = some (600, false)) (by decide)
    obtain ⟨l, rl', tl⟩ := hR.at t 1 tt (rfl : h_rs 6 1 = some (601, false)) (by decide)
    exact ⟨tt, ne a k0 tx y b t ho (by rw [ttx]; rfl) ha r h2, n, l, rn', rl', tn, tl⟩
  refine h.z hR tb (e6 b tb) (fun c k hc hw => ?_)
  rcases hw with hw | hw | hw
  · subst hw
    refine fr c k hc b1 (kn _ _ _ _ tb trn (by decide)) (kn _ _ _ _ tb tro (by decide)) (fun t ht => ?_)
    obtain ⟨tt, g1, n, l, g2, g3, g4, g5⟩ := own t ht
    rw [h_ad.at g2, h_ad.at g3]
    exact ⟨g1, kn _ _ _ _ tb g4 (by decide), kn _ _ _ _ tb g5 (by decide)⟩
  · obtain ⟨n, rn', tn⟩ := hR.at b 0 tb (rfl : h_rs 6 0 = some (600, false)) (by decide)
    rw [rn'] at hw
    cases hw
    refine fr c k hc (kn _ _ _ _ tn trl (by decide)) (ne b 0 rl 0 c rn (by rw [tb]; rfl) (by rw [trl]; rfl) rn' rrn (Or.inl b1)) (kn _ _ _ _ tn tro (by decide)) (fun t ht => ?_)
    obtain ⟨tt, g1, n, l, g2, g3, g4, g5⟩ := own t ht
    rw [h_ad.at g2, h_ad.at g3]
    exact ⟨kn _ _ _ _ tn tt (by decide), ne b 0 t 0 c n (by rw [tb]; rfl) (by rw [tt]; rfl) rn' g2 (Or.inl g1), kn _ _ _ _ tn g5 (by decide)⟩
  · obtain ⟨l, rl', tl⟩ := hR.at b 1 tb (rfl : h_rs 6 1 = some (601, false)) (by decide)
    rw [rl'] at hw
    cases hw
    refine fr c k hc (kn _ _ _ _ tl trl (by decide)) (kn _ _ _ _ tl trn (by decide)) (ne b 1 rl 1 c ro (by rw [tb]; rfl) (by rw [trl]; rfl) rl' rro (Or.inl b1)) (fun t ht => ?_)
    obtain ⟨tt, g1, n, l, g2, g3, g4, g5⟩ := own t ht
    rw [h_ad.at g2, h_ad.at g3]
    exact ⟨kn _ _ _ _ tl tt (by decide), kn _ _ _ _ tl g4 (by decide), ne b 1 t 1 c l (by rw [tb]; rfl) (by rw [tt]; rfl) rl' g3 (Or.inl g1)⟩
theorem h_bk.same {z z1 : tZ} {I I1 : tI} {tx un lw hy rd rl rn ro lb : Nat} (h : h_bk z I tx un lw hy) (hU : h_U z) (hR : h_R z) (ttx : z.ty tx = 401) (trd : z.ty rd = 5) (trl : z.ty rl = 6) (trn : z.ty rn = 600) (tro : z.ty ro = 601) (tlb : z.ty lb = 4) (tun : z.ty un = 6) (rrl : z.R rd 1 = some rl) (rrn : z.R rl 0 = some rn) (rro : z.R rl 1 = some ro) (run : z.R lb 0 = some un) (eR : z1.R tx = z.R tx) (e6 : ∀ b : Nat, z.ty b = 6 → z1.R b = z.R b) (fr : ∀ b k : Nat, (z.ty b = 6 ∨ z.ty b = 600 ∨ z.ty b = 601) → b ≠ rl → b ≠ rn → b ≠ ro → I1 b k = I b k) (el : I1 lw = I lw) (ey : I1 hy = I hy) : h_bk z1 I1 tx un lw hy := by
  obtain ⟨h1, h2, h3⟩ := h
  have nrd : lb ≠ rd := fun e => by
    rw [e, trd] at tlb
    exact absurd tlb (by decide)
  have ntr : tx ≠ rd := fun e => by
    rw [e, trd] at ttx
    exact absurd ttx (by decide)
  have nlt : lb ≠ tx := fun e => by
    rw [e, ttx] at tlb
    exact absurd tlb (by decide)
  unfold h_bk
  rw [el, ey]
  refine ⟨fun y h10 => ?_, h_bk.key hU hR ttx trd trl trn tro rrl rrn rro (y := 0) (by decide) (fun _ => False) (fun _ h => h.elim) (fun b k g1 g2 g3 g4 _ => fr b k g1 g2 g3 g4) e6 (a := lb) (k0 := 0) (by rw [tlb]; rfl) run tun nrd (Or.inl nlt) h2, h3⟩
  rcases h1 y h10 with ⟨a1, a2⟩ | ⟨b, a1, a2, a3, a4⟩
  · exact Or.inl ⟨by rw [eR]; exact a1, a2⟩
  · exact Or.inr ⟨b, by rw [eR]; exact a1, a2, h_bk.key hU hR ttx trd trl trn tro rrl rrn rro (y := (y + 1) % 10) (Nat.mod_lt _ (by decide)) (fun _ => False) (fun _ h => h.elim) (fun b k g1 g2 g3 g4 _ => fr b k g1 g2 g3 g4) e6 (a := tx) (k0 := y) (by rw [ttx]; rfl) a1 (hR.opt ttx (rfl : h_rs 401 y = some (6, true)) (by rw [so_401]; exact h10) a1) ntr (Or.inr (by omega)) a3, a4⟩
theorem h_bk.tell {z z1 : tZ} {I I1 I2 : tI} {tx un lw hy rd rl rn ro lb y t : Nat} {U : Nat → Int} (h : h_bk z I tx un lw hy) (hU : h_U z) (hR : h_R z) (hR1 : h_R z1) (ttx : z.ty tx = 401) (trd : z.ty rd = 5) (trl : z.ty rl = 6) (trn : z.ty rn = 600) (tro : z.ty ro = 601) (tlb : z.ty lb = 4) (tun : z.ty un = 6) (rrl : z.R rd 1 = some rl) (rrn : z.R rl 0 = some rn) (rro : z.R rl 1 = some ro) (run : z.R lb 0 = some un) (kt : ∀ b : Nat, z.ty b ≠ 0 → z1.ty b = z.ty b) (e6 : ∀ b : Nat, z.ty b = 6 → z1.R b = z.R b) (hy9 : y < 10) (e1 : z1.R tx = fun k => if k = y then some t else z.R tx k) (hl : h_lw I1 t (h_ad z1 t 0) (h_ad z1 t 1) U) (hok : q_ok U)
    (fr : ∀ b k : Nat, (z.ty b = 6 ∨ z.ty b = 600 ∨ z.ty b = 601) → b ≠ rl → b ≠ rn → b ≠ ro → (∀ t : Nat, z.R tx y = some t → b ≠ t ∧ b ≠ h_ad z t 0 ∧ b ≠ h_ad z t 1) → I1 b k = I b k) (el : I1 lw = I lw) (ey : I1 hy = I hy)
    (f6 : ∀ b k : Nat, (z1.ty b = 6 ∨ z1.ty b = 600 ∨ z1.ty b = 601) → I2 b k = I1 b k) (g1 : ∀ i : Nat, i < 16 → (I2 lw (16 * y + i)).toInt = U i) (g2 : ∀ k : Nat, (k < 160 ∨ 176 ≤ k) → (k < 16 * y ∨ 16 * y + 16 ≤ k) → I2 lw k = I1 lw k) (g3 : I2 hy y = 1) (g4 : ∀ k : Nat, k ≠ y → I2 hy k = I1 hy k) : h_bk z1 I2 tx un lw hy := by
  obtain ⟨h1, h2, h3⟩ := h
  have nrd : lb ≠ rd := fun e => by
    rw [e, trd] at tlb
    exact absurd tlb (by decide)
  have ntr : tx ≠ rd := fun e => by
    rw [e, trd] at ttx
    exact absurd ttx (by decide)
  have nlt : lb ≠ tx := fun e => by
    rw [e, ttx] at tlb
    exact absurd tlb (by decide)
  have ttx1 : z1.ty tx = 401 := (kt tx (by rw [ttx]; decide)).trans ttx
  have step : ∀ (b : Nat) (u : Nat → Int), z1.ty b = 6 → h_lw I1 b (h_ad z1 b 0) (h_ad z1 b 1) u → h_lw I2 b (h_ad z1 b 0) (h_ad z1 b 1) u := fun b u tb hb => hb.z hR1 tb rfl (fun c k hc _ => f6 c k hc)
  have ed : ∀ k : Nat, k = y → z1.R tx k = some t := fun k hk => by rw [e1]; exact if_pos hk
  have en : ∀ k : Nat, k ≠ y → z1.R tx k = z.R tx k := fun k hk => by rw [e1]; exact if_neg hk
  have l176 : ∀ i : Nat, i < 16 → I lw (176 + i) = I2 lw (176 + i) := fun i hi => ((g2 (176 + i) (by omega) (by omega)).trans (congrFun el _)).symm
  have un1 := h_bk.key hU hR ttx trd trl trn tro rrl rrn rro hy9 (fun t => z.R tx y = some t) (fun _ h => h) fr e6 (a := lb) (k0 := 0) (by rw [tlb]; rfl) run tun nrd (Or.inl nlt) h2
  refine ⟨fun y' h10 => ?_, (step un _ ((kt un (by rw [tun]; decide)).trans tun) un1).u (fun i hi => congrArg Int32.toInt (l176 i hi)), h3.u (fun i hi => congrArg Int32.toInt (l176 i hi))⟩
  by_cases hyy : y' = y
  · subst hyy
    have tt : z1.ty t = 6 := hR1.opt ttx1 (rfl : h_rs 401 y' = some (6, true)) (by rw [so_401]; exact h10) (ed y' rfl)
    exact Or.inr ⟨t, ed y' rfl, by rw [g3]; decide, (step t _ tt hl).u (fun i hi => (g1 i hi).symm), hok.u (fun i hi => (g1 i hi).symm)⟩
  · have l2 : ∀ i : Nat, i < 16 → I lw (16 * y' + i) = I2 lw (16 * y' + i) := fun i hi => ((g2 (16 * y' + i) (by omega) (by omega)).trans (congrFun el _)).symm
    rcases h1 y' h10 with ⟨a1, a2⟩ | ⟨b, a1, a2, a3, a4⟩
    · exact Or.inl ⟨(en y' hyy).trans a1, by rw [g4 y' hyy, ey]; exact a2⟩
    · have tb : z.ty b = 6 := hR.opt ttx (rfl : h_rs 401 y' = some (6, true)) (by rw [so_401]; exact h10) a1
      have b1 := h_bk.key hU hR ttx trd trl trn tro rrl rrn rro hy9 (fun t => z.R tx y = some t) (fun _ h => h) fr e6 (a := tx) (k0 := y') (by rw [ttx]; rfl) a1 tb ntr (Or.inr hyy) a3
      exact Or.inr ⟨b, (en y' hyy).trans a1, by rw [g4 y' hyy, ey]; exact a2, (step b _ ((kt b (by rw [tb]; decide)).trans tb) b1).u (fun i hi => congrArg Int32.toInt (l2 i hi)), a4.u (fun i hi => congrArg Int32.toInt (l2 i hi))⟩
theorem h_bk.init {z : tZ} {I : tI} {tx un lw hy : Nat} (h1 : z.R tx = fun _ => none) (h2 : ∀ k : Nat, I hy k = 0) (h3 : h_lw I un (h_ad z un 0) (h_ad z un 1) q_pl) (h4 : ∀ i : Nat, i < 16 → (I lw (176 + i)).toInt = q_pl i) : h_bk z I tx un lw hy :=
  ⟨fun y _ => Or.inl ⟨by rw [h1], by rw [h2 y]; decide⟩, h3.u (fun i hi => (h4 i hi).symm), q_ok_pl.u (fun i hi => (h4 i hi).symm)⟩

