/-! what two books have in common: WORTHS of turns, WORTHS of players -/
def h_tw (z : tZ) (I : tI) (wo w : Nat) : Prop := ∀ c k : Nat, c < 8 → k < 80 → I (h_ad z wo c) k = I w (140 * c + 60 + k)
theorem h_tw.row {z : tZ} (hR : h_R z) {wo : Nat} (two : z.ty wo = 1103) {c : Nat} (hc : c < 8) : ∃ b, z.R wo c = some b ∧ z.ty b = 1153 := hR.at wo c two (rfl : h_rs 1103 c = some (1153, false)) (by rw [so_1103]; exact hc)
theorem h_tw.F {M : List (Nat × Nat)} {z : tZ} {I I1 : tI} {wo w : Nat} (h : h_tw z I wo w) (hR : h_R z) (two : z.ty wo = 1103) (f : h_F M z I I1) (h1 : ∀ k, h_m M 1153 k = false) (h2 : ∀ k : Nat, 60 ≤ k % 140 → I1 w k = I w k) : h_tw z I1 wo w := by
  intro c k hc hk
  obtain ⟨b, rb, tb⟩ := h_tw.row hR two hc
  have e := h c k hc hk
  rw [h_ad.at rb] at e ⊢
  rw [f.at tb (h1 k), h2 _ (by omega)]
  exact e
theorem h_tw.X {M : List (Nat × Nat)} {MR : List Nat} {z z1 : tZ} {I I1 : tI} {L L1 : tL} {wo w : Nat} (h : h_tw z I wo w) (hR : h_R z) (two : z.ty wo = 1103) (tw : z.ty w = 1338) (x : h_X M MR none z I L z1 I1 L1) (hm : MR.contains 1103 = false) (h1 : ∀ k, h_m M 1153 k = false) (h2 : ∀ k, h_m M 1338 k = false) : h_tw z1 I1 wo w := by
  intro c k hc hk
  obtain ⟨b, rb, tb⟩ := h_tw.row hR two hc
  have e := h c k hc hk
  rw [h_ad.at rb] at e
  rw [h_ad.at (x.R two (by decide) (fun q => by cases q) hm rb), x.I tb (by decide) (fun q => by cases q) (h1 k), x.I tw (by decide) (fun q => by cases q) (h2 _)]
  exact e
theorem h_tw.init {M : List (Nat × Nat)} {z : tZ} {I : tI} {wo w : Nat} (h : h_0 M z I) (hR : h_R z) (two : z.ty wo = 1103) (tw : z.ty w = 1338) (h1 : ∀ k, h_m M 1153 k = false) (h2 : ∀ k, h_m M 1338 k = false) : h_tw z I wo w := by
  intro c k hc hk
  obtain ⟨b, rb, tb⟩ := h_tw.row hR two hc
  rw [h_ad.at rb, h.at tb (by decide) (h1 k), h.at tw (by decide) (h2 _)]
theorem h_tw.wt {z : tZ} {I I1 I2 : tI} {wo w : Nat} {c o y nt : Int} {n r1 r2 : Int32} (h : h_tw z I wo w) (hU : h_U z) (hR : h_R z) (two : z.ty wo = 1103) (tw : z.ty w = 1338)
    (p1 : (¬ (0 ≤ c ∧ c ≤ 7 ∧ 0 ≤ o ∧ o ≤ 7 ∧ 0 ≤ y ∧ y ≤ 9 ∧ 0 ≤ nt ∧ nt ≤ 9999) ∧ r1.toInt = -2 ∧ I1 = I) ∨ ((0 ≤ c ∧ c ≤ 7 ∧ 0 ≤ o ∧ o ≤ 7 ∧ 0 ≤ y ∧ y ≤ 9 ∧ 0 ≤ nt ∧ nt ≤ 9999) ∧ r1 = I (h_ad z wo c.toNat) (10 * o + y).toNat ∧ I1 = h_up I (h_ad z wo c.toNat) (10 * o + y).toNat n))
    (p2 : (¬ (0 ≤ c ∧ c ≤ 7 ∧ 0 ≤ o ∧ o ≤ 7 ∧ 0 ≤ y ∧ y ≤ 9 ∧ 0 ≤ nt ∧ nt ≤ 9999) ∧ r2.toInt = -2 ∧ ∀ k : Nat, I2 w k = I1 w k) ∨ ((0 ≤ c ∧ c ≤ 7 ∧ 0 ≤ o ∧ o ≤ 7 ∧ 0 ≤ y ∧ y ≤ 9 ∧ 0 ≤ nt ∧ nt ≤ 9999) ∧ r2 = I1 w (140 * c + 60 + 10 * o + y).toNat ∧ I2 w (140 * c + 60 + 10 * o + y).toNat = n ∧ ∀ k : Nat, k ≠ (140 * c + 60 + 10 * o + y).toNat → I2 w k = I1 w k))
    (f2 : h_F [(1338, 999)] z I1 I2) : r1.toInt = r2.toInt ∧ h_tw z I2 wo w := by
  rcases p1 with ⟨a1, a2, a3⟩ | ⟨a1, a2, a3⟩
  · rcases p2 with ⟨b1, b2, b3⟩ | ⟨b1, _⟩
    · subst a3
      refine ⟨a2.trans b2.symm, fun c k hc hk => ?_⟩
      obtain ⟨b, rb, tb⟩ := h_tw.row hR two hc
      have e := h c k hc hk
      rw [h_ad.at rb] at e ⊢
      rw [f2.at tb rfl, b3]
      exact e
    · exact absurd b1 a1
  · rcases p2 with ⟨b1, _⟩ | ⟨b1, b2, b3, b4⟩
    · exact absurd a1 b1
    · obtain ⟨b, rb, tb⟩ := h_tw.row hR two (c := c.toNat) (by omega)
      rw [h_ad.at rb] at a2 a3
      have ne : w ≠ b := h_ne2 tw tb (by decide)
      have w1 : ∀ k, I1 w k = I w k := fun k => by
        rw [a3]
        exact congrFun (h_up_ne ne) k
      have eI : 140 * c.toNat + 60 + (10 * o + y).toNat = (140 * c + 60 + 10 * o + y).toNat := by omega
      have e := h c.toNat (10 * o + y).toNat (by omega) (by omega)
      rw [h_ad.at rb, eI] at e
      refine ⟨by rw [a2, b2, w1, e], fun c' k hc hk => ?_⟩
      obtain ⟨b', rb', tb'⟩ := h_tw.row hR two hc
      rw [h_ad.at rb', f2.at tb' rfl, a3]
      by_cases hck : c' = c.toNat ∧ k = (10 * o + y).toNat
      · obtain ⟨h1, h2⟩ := hck
        subst h1
        subst h2
        have hb : b' = b := Option.some.inj (rb'.symm.trans rb)
        rw [hb, h_up_eq, eI, b3]
      · rw [b4 _ (by omega), w1, ← h c' k hc hk, h_ad.at rb']
        by_cases hb : b' = b
        · subst hb
          have hc2 : c' = c.toNat := (hU.2.2 wo c' wo c.toNat b' (by rw [two]; rfl) (by rw [two]; rfl) rb' rb).2
          exact h_up_at (fun q => hck ⟨hc2, q⟩)
        · exact congrFun (h_up_ne hb) k
def h_wp (z : tZ) (I : tI) (pl w : Nat) (nb : Int) : Prop := (∀ p : Nat, (p : Int) < nb → z.R pl p ≠ none) ∧ ∀ c p : Nat, c < 8 → p < 60 → ((p : Int) < nb → I (h_ad z (h_ad z pl p) 8) c = I w (140 * c + p)) ∧ (nb ≤ (p : Int) → I w (140 * c + p) = 0)
theorem h_wp.pl {z : tZ} {I : tI} {pl w : Nat} {nb : Int} (h : h_wp z I pl w nb) (hR : h_R z) (tp : z.ty pl = 101) {p : Nat} (hp : (p : Int) < nb) (h60 : p < 60) : ∃ b a, z.R pl p = some b ∧ z.ty b = 7 ∧ z.R b 8 = some a ∧ z.ty a = 708 := by
  rcases hR.nl pl p tp (rfl : h_rs 101 p = some (7, true)) (by rw [so_101]; exact h60) with q | ⟨b, rb, tb⟩
  · exact absurd q (h.1 p hp)
  · obtain ⟨a, ra, ta⟩ := hR.at b 8 tb (rfl : h_rs 7 8 = some (708, false)) (by decide)
    exact ⟨b, a, rb, tb, ra, ta⟩
theorem h_wp.F {M : List (Nat × Nat)} {z : tZ} {I I1 : tI} {pl w : Nat} {nb : Int} (h : h_wp z I pl w nb) (hR : h_R z) (tp : z.ty pl = 101) (f : h_F M z I I1) (h1 : ∀ k, h_m M 708 k = false) (h2 : ∀ k : Nat, k % 140 < 60 → I1 w k = I w k) : h_wp z I1 pl w nb := by
  refine ⟨h.1, fun c p hc hp => ⟨fun hn => ?_, fun hn => ?_⟩⟩
  · obtain ⟨b, a, rb, tb, ra, ta⟩ := h.pl hR tp hn hp
    have e := (h.2 c p hc hp).1 hn
    rw [h_ad.at rb, h_ad.at ra] at e ⊢
    rw [f.at ta (h1 c), h2 _ (by omega)]
    exact e
  · rw [h2 _ (by omega)]
    exact (h.2 c p hc hp).2 hn
theorem h_wp.X {M : List (Nat × Nat)} {MR : List Nat} {z z1 : tZ} {I I1 : tI} {L L1 : tL} {pl w : Nat} {nb : Int} (h : h_wp z I pl w nb) (hR : h_R z) (tp : z.ty pl = 101) (tw : z.ty w = 1338) (x : h_X M MR none z I L z1 I1 L1) (hm : MR.contains 101 = false) (hm2 : MR.contains 7 = false) (h1 : ∀ k, h_m M 708 k = false) (h2 : ∀ k, h_m M 1338 k = false) : h_wp z1 I1 pl w nb := by
  have no : ∀ b : Nat, some b ≠ none := fun b q => by cases q
  refine ⟨fun p hp => ?_, fun c p hc hp => ⟨fun hn => ?_, fun hn => ?_⟩⟩
  · rw [x.R tp (by decide) (no _) hm rfl]
    exact h.1 p hp
  · obtain ⟨b, a, rb, tb, ra, ta⟩ := h.pl hR tp hn hp
    have e := (h.2 c p hc hp).1 hn
    rw [h_ad.at rb, h_ad.at ra] at e
    rw [h_ad.at (x.R tp (by decide) (no _) hm rb), h_ad.at (x.R tb (by decide) (no _) hm2 ra), x.I ta (by decide) (no _) (h1 c), x.I tw (by decide) (no _) (h2 _)]
    exact e
  · rw [x.I tw (by decide) (no _) (h2 _)]
    exact (h.2 c p hc hp).2 hn
theorem h_wp.init {M : List (Nat × Nat)} {z : tZ} {I : tI} {pl w : Nat} (h : h_0 M z I) (tw : z.ty w = 1338) (h2 : ∀ k, h_m M 1338 k = false) : h_wp z I pl w 0 :=
  ⟨fun p hp => absurd hp (by omega), fun c p hc hp => ⟨fun hn => absurd hn (by omega), fun _ => h.at tw (by decide) (h2 _)⟩⟩
theorem h_wp.player {M M3 : List (Nat × Nat)} {z z1 : tZ} {I I1 : tI} {L L1 : tL} {pl w bk : Nat} {nb : Int} {r : Int32} (h : h_wp z I pl w nb) (en : (I bk 2).toInt = nb) (h0 : 0 ≤ nb) (hU : h_U z) (hR : h_R z) (hR1 : h_R z1) (tp : z.ty pl = 101) (tw : z.ty w = 1338) (x : h_X M [101] none z I L z1 I1 L1) (q : h_Q M3 none z z1 I1) (h1 : ∀ k, h_m M 708 k = false) (h2 : ∀ k, h_m M 1338 k = false) (h3 : ∀ k, h_m M3 708 k = false)
    (p : (60 ≤ (I bk 2).toInt ∧ r.toInt = -3 ∧ I1 bk 2 = I bk 2 ∧ z1.R pl = z.R pl) ∨ ((I bk 2).toInt < 60 ∧ r.toInt = (I bk 2).toInt ∧ (I1 bk 2).toInt = (I bk 2).toInt + 1 ∧ ∃ q : Nat, z.ty q = 0 ∧ z1.R pl = fun k => if k = (I bk 2).toInt.toNat then some q else z.R pl k)) : h_wp z1 I1 pl w (I1 bk 2).toInt := by
  have no : ∀ b : Nat, some b ≠ none := fun b q => by cases q
  have w1 : ∀ k, I1 w k = I w k := fun k => x.I tw (by decide) (no _) (h2 k)
  have old : ∀ c p : Nat, c < 8 → p < 60 → (p : Int) < nb → z1.R pl p = z.R pl p → I1 (h_ad z1 (h_ad z1 pl p) 8) c = I1 w (140 * c + p) := by
    intro c p hc hp hn hr
    obtain ⟨b, a, rb, tb, ra, ta⟩ := h.pl hR tp hn hp
    have e := (h.2 c p hc hp).1 hn
    rw [h_ad.at rb, h_ad.at ra] at e
    rw [h_ad.at (hr.trans rb), h_ad.at (x.R tb (by decide) (no _) rfl ra), x.I ta (by decide) (no _) (h1 c), w1]
    exact e
  rcases p with ⟨_, _, a3, a4⟩ | ⟨a1, _, a3, y, a4, a5⟩
  · rw [a3, en]
    refine ⟨fun p hp => by rw [a4]; exact h.1 p hp, fun c p hc hp => ⟨fun hn => old c p hc hp hn (by rw [a4]), fun hn => ?_⟩⟩
    rw [w1]
    exact (h.2 c p hc hp).2 hn
  · rw [a3, en]
    rw [en] at a1 a5
    refine ⟨fun p hp => ?_, fun c p hc hp => ⟨fun hn => ?_, fun hn => ?_⟩⟩
    · rw [a5]
      show (if p = nb.toNat then some y else z.R pl p) ≠ none
      by_cases hpn : p = nb.toNat
      · rw [if_pos hpn]
        exact fun hh => by cases hh
      · rw [if_neg hpn]
        exact h.1 p (by omega)
    · by_cases hpn : p = nb.toNat
      · have rb : z1.R pl p = some y := by
          rw [a5]
          exact if_pos hpn
        have tp1 := x.ty tp (by decide) (no _)
        have ty : z1.ty y = 7 := by
          rcases hR1.nl pl p tp1 (rfl : h_rs 101 p = some (7, true)) (by rw [so_101]; exact hp) with g | ⟨b, g1, g2⟩
          · rw [rb] at g
            cases g
          · rw [rb] at g1
            cases g1
            exact g2
        obtain ⟨a, ra, ta⟩ := hR1.at y 8 ty (rfl : h_rs 7 8 = some (708, false)) (by decide)
        have ta0 : z.ty a = 0 := by
          rcases q.2.1.2 y 8 a (by rw [ty]; rfl) ra with ⟨_, g⟩ | g
          · rw [hU.2.1 y 8 a4] at g
            cases g
          · exact g
        rw [h_ad.at rb, h_ad.at ra, w1, (h.2 c p hc hp).2 (by omega)]
        exact q.2.2 a c (by rw [ta]; decide) (Or.inl ta0) (by rw [ta]; exact h3 c)
      · exact old c p hc hp (by omega) (by rw [a5]; exact if_neg hpn)
    · rw [w1]
      exact (h.2 c p hc hp).2 (by omega)
theorem h_wp.worth {z : tZ} {I I1 I2 : tI} {pl w : Nat} {nb c p nt : Int} {n r1 r2 : Int32} (h : h_wp z I pl w nb) (h60 : nb ≤ 60) (hU : h_U z) (hR : h_R z) (tp : z.ty pl = 101) (tw : z.ty w = 1338)
    (p1 : (¬ ((0 ≤ c ∧ c ≤ 7 ∧ 0 ≤ p ∧ p ≤ 59 ∧ p < nb ∧ 0 ≤ nt ∧ nt ≤ 9999) ∧ z.R pl p.toNat ≠ none) ∧ r1.toInt = -2 ∧ I1 = I) ∨ (((0 ≤ c ∧ c ≤ 7 ∧ 0 ≤ p ∧ p ≤ 59 ∧ p < nb ∧ 0 ≤ nt ∧ nt ≤ 9999) ∧ z.R pl p.toNat ≠ none) ∧ r1 = I (h_ad z (h_ad z pl p.toNat) 8) c.toNat ∧ I1 = h_up I (h_ad z (h_ad z pl p.toNat) 8) c.toNat n))
    (p2 : (¬ (0 ≤ c ∧ c ≤ 7 ∧ 0 ≤ p ∧ p ≤ 59 ∧ p < nb ∧ 0 ≤ nt ∧ nt ≤ 9999) ∧ r2.toInt = -2 ∧ ∀ k : Nat, I2 w k = I1 w k) ∨ ((0 ≤ c ∧ c ≤ 7 ∧ 0 ≤ p ∧ p ≤ 59 ∧ p < nb ∧ 0 ≤ nt ∧ nt ≤ 9999) ∧ r2 = I1 w (140 * c + p).toNat ∧ I2 w (140 * c + p).toNat = n ∧ ∀ k : Nat, k ≠ (140 * c + p).toNat → I2 w k = I1 w k))
    (f2 : h_F [(1338, 999)] z I1 I2) : r1.toInt = r2.toInt ∧ h_wp z I2 pl w nb := by
  rcases p1 with ⟨a1, a2, a3⟩ | ⟨⟨a1, a0⟩, a2, a3⟩
  · rcases p2 with ⟨b1, b2, b3⟩ | ⟨b1, _⟩
    · subst a3
      exact ⟨a2.trans b2.symm, h.F hR tp f2 (fun _ => rfl) (fun k _ => b3 k)⟩
    · exact absurd ⟨b1, h.1 p.toNat (by omega)⟩ a1
  · rcases p2 with ⟨b1, _⟩ | ⟨b1, b2, b3, b4⟩
    · exact absurd a1 b1
    · obtain ⟨b, a, rb, tb, ra, ta⟩ := h.pl hR tp (p := p.toNat) (by omega) (by omega)
      rw [h_ad.at rb, h_ad.at ra] at a2 a3
      have ne : w ≠ a := h_ne2 tw ta (by decide)
      have w1 : ∀ k, I1 w k = I w k := fun k => by
        rw [a3]
        exact congrFun (h_up_ne ne) k
      have eI : 140 * c.toNat + p.toNat = (140 * c + p).toNat := by omega
      have e := (h.2 c.toNat p.toNat (by omega) (by omega)).1 (by omega)
      rw [h_ad.at rb, h_ad.at ra, eI] at e
      refine ⟨by rw [a2, b2, w1, e], h.1, fun c' p' hc hp => ⟨fun hn => ?_, fun hn => ?_⟩⟩
      · obtain ⟨b', a', rb', tb', ra', ta'⟩ := h.pl hR tp hn hp
        rw [h_ad.at rb', h_ad.at ra', f2.at ta' rfl, a3]
        have key : a' = a → p' = p.toNat := by
          intro ha
          subst ha
          have hb := (hU.2.2 b' 8 b 8 a' (by rw [tb']; rfl) (by rw [tb]; rfl) ra' ra).1
          subst hb
          exact (hU.2.2 pl p' pl p.toNat b' (by rw [tp]; rfl) (by rw [tp]; rfl) rb' rb).2
        by_cases hck : c' = c.toNat ∧ p' = p.toNat
        · obtain ⟨h1, h2⟩ := hck
          subst h1
          subst h2
          have hb : b' = b := Option.some.inj (rb'.symm.trans rb)
          subst hb
          have ha : a' = a := Option.some.inj (ra'.symm.trans ra)
          rw [ha, h_up_eq, eI, b3]
        · rw [b4 _ (by omega), w1, ← (h.2 c' p' hc hp).1 hn, h_ad.at rb', h_ad.at ra']
          by_cases ha : a' = a
          · have := key ha
            subst ha
            exact h_up_at (fun q => hck ⟨q, this⟩)
          · exact congrFun (h_up_ne ha) c'
      · rw [b4 _ (by omega), w1]
        exact (h.2 c' p' hc hp).2 hn

