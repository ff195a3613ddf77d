/-! two calls, one of each: they answer alike, and what they have in common stays -/
theorem h_laws2 {z z1 : tZ} {I I1 I2 : tI} {tp bt bk rd rl rn ro lb tx un mo mb lw hy : Nat} {y_t : Int} {r1 r2 : Int32} (hU : h_U z) (hR : h_R z) (hR1 : h_R z1) (ttx : z.ty tx = 401) (trd : z.ty rd = 5) (trl : z.ty rl = 6) (trn : z.ty rn = 600) (tro : z.ty ro = 601) (tlb : z.ty lb = 4) (tun : z.ty un = 6) (rrl : z.R rd 1 = some rl) (rrn : z.R rl 0 = some rn) (rro : z.R rl 1 = some ro) (run : z.R lb 0 = some un) (kt : ∀ b : Nat, z.ty b ≠ 0 → z1.ty b = z.ty b) (e6 : ∀ b : Nat, z.ty b = 6 → z1.R b = z.R b)
    (Rtp : I tp 1 = I mo 1 ∧ I bt = I mb) (Rck : I bk 3 = I mo 12) (Rfa : I rd 2 = I mo 8 ∧ I rd 3 = I mo 9) (Rbk : h_bk z I tx un lw hy)
    (p : (¬ ((I bk 3).toInt ≤ y_t ∧ y_t ≤ 9) ∧ r1.toInt = -2 ∧ I1 rd 2 = I rd 2 ∧ I1 rd 3 = I rd 3 ∧ z1.R tx = z.R tx ∧ (∀ b k : Nat, (z.ty b = 6 ∨ z.ty b = 600 ∨ z.ty b = 601) → b ≠ rl → b ≠ rn → b ≠ ro → I1 b k = I b k)) ∨ (((I bk 3).toInt ≤ y_t ∧ y_t ≤ 9) ∧ (I1 rd 2).toInt = (q_text (q_at (I bt) (I tp 1).toInt) 501 0 (fun _ => false) q_pl 0).1 ∧ (I1 rd 3).toInt = (q_text (q_at (I bt) (I tp 1).toInt) 501 0 (fun _ => false) q_pl 0).2.1 ∧ r1.toInt = (q_text (q_at (I bt) (I tp 1).toInt) 501 0 (fun _ => false) q_pl 0).2.2.1 ∧ (((q_text (q_at (I bt) (I tp 1).toInt) 501 0 (fun _ => false) q_pl 0).1 ≠ 0 ∧ z1.R tx = z.R tx ∧ (∀ b k : Nat, (z.ty b = 6 ∨ z.ty b = 600 ∨ z.ty b = 601) → b ≠ rl → b ≠ rn → b ≠ ro → I1 b k = I b k)) ∨ ((q_text (q_at (I bt) (I tp 1).toInt) 501 0 (fun _ => false) q_pl 0).1 = 0 ∧ 0 ≤ y_t ∧ ∃ t : Nat, z1.R tx = (fun k => if k = y_t.toNat then some t else z.R tx k) ∧ h_lw I1 t (h_ad z1 t 0) (h_ad z1 t 1) (q_text (q_at (I bt) (I tp 1).toInt) 501 0 (fun _ => false) q_pl 0).2.2.2 ∧ (∀ b k : Nat, (z.ty b = 6 ∨ z.ty b = 600 ∨ z.ty b = 601) → b ≠ rl → b ≠ rn → b ≠ ro → (∀ t : Nat, z.R tx y_t.toNat = some t → b ≠ t ∧ b ≠ h_ad z t 0 ∧ b ≠ h_ad z t 1) → I1 b k = I b k)))))
    (m1 : I1 mo 1 = I mo 1) (m8 : I1 mo 8 = I mo 8) (m9 : I1 mo 9 = I mo 9) (m12 : I1 mo 12 = I mo 12) (mb1 : I1 mb = I mb) (el : I1 lw = I lw) (ey : I1 hy = I hy)
    (q : (¬ ((I1 mo 12).toInt ≤ y_t ∧ y_t ≤ 9) ∧ r2.toInt = -2 ∧ I2 mo 8 = I1 mo 8 ∧ I2 mo 9 = I1 mo 9 ∧ (∀ k : Nat, I2 lw k = I1 lw k) ∧ ∀ k : Nat, I2 hy k = I1 hy k) ∨ (((I1 mo 12).toInt ≤ y_t ∧ y_t ≤ 9) ∧ (I2 mo 8).toInt = (q_text (q_at (I1 mb) (I1 mo 1).toInt) 501 0 (fun _ => false) q_pl 0).1 ∧ (I2 mo 9).toInt = (q_text (q_at (I1 mb) (I1 mo 1).toInt) 501 0 (fun _ => false) q_pl 0).2.1 ∧ r2.toInt = (q_text (q_at (I1 mb) (I1 mo 1).toInt) 501 0 (fun _ => false) q_pl 0).2.2.1 ∧ (((q_text (q_at (I1 mb) (I1 mo 1).toInt) 501 0 (fun _ => false) q_pl 0).1 ≠ 0 ∧ (∀ k : Nat, (k < 160 ∨ 176 ≤ k) → I2 lw k = I1 lw k) ∧ ∀ k : Nat, I2 hy k = I1 hy k) ∨ ((q_text (q_at (I1 mb) (I1 mo 1).toInt) 501 0 (fun _ => false) q_pl 0).1 = 0 ∧ (∀ i : Nat, i < 16 → (I2 lw (16 * y_t.toNat + i)).toInt = (q_text (q_at (I1 mb) (I1 mo 1).toInt) 501 0 (fun _ => false) q_pl 0).2.2.2 i) ∧ (∀ k : Nat, (k < 160 ∨ 176 ≤ k) → (k < 16 * y_t.toNat ∨ 16 * y_t.toNat + 16 ≤ k) → I2 lw k = I1 lw k) ∧ I2 hy y_t.toNat = 1 ∧ ∀ k : Nat, k ≠ y_t.toNat → I2 hy k = I1 hy k))))
    (f2 : I2 rd 2 = I1 rd 2) (f3 : I2 rd 3 = I1 rd 3) (f6 : ∀ b k : Nat, (z1.ty b = 6 ∨ z1.ty b = 600 ∨ z1.ty b = 601) → I2 b k = I1 b k) :
    r1.toInt = r2.toInt ∧ (I2 rd 2 = I2 mo 8 ∧ I2 rd 3 = I2 mo 9) ∧ h_bk z1 I2 tx un lw hy := by
  obtain ⟨Ra, Rb⟩ := Rtp
  obtain ⟨Rc, Rd⟩ := Rfa
  have hok := q_text_ok (g := q_at (I mb) (I mo 1).toInt) 501 0 (fun _ => false) q_pl 0 q_ok_pl
  rw [Ra, Rb, Rck] at p
  rw [m1, m8, m9, m12, mb1] at q
  generalize q_text (q_at (I mb) (I mo 1).toInt) 501 0 (fun _ => false) q_pl 0 = RT at p q hok
  have ttx1 : z1.ty tx = 401 := (kt tx (by rw [ttx]; decide)).trans ttx
  have tun1 : z1.ty un = 6 := (kt un (by rw [tun]; decide)).trans tun
  rcases p with ⟨p1, p2, p3, p4, p5, p6⟩ | ⟨p1, p2, p3, p4, p5⟩
  · rcases q with ⟨q1, q2, q3, q4, q5, q6⟩ | ⟨q1, _⟩
    · refine ⟨by rw [p2, q2], ⟨by rw [f2, p3, Rc, q3], by rw [f3, p4, Rd, q4]⟩, ?_⟩
      exact (Rbk.same hU hR ttx trd trl trn tro tlb tun rrl rrn rro run p5 e6 p6 el ey).c hR1 ttx1 tun1 rfl (fun _ _ => rfl) f6 (fun k _ => q5 k) q6
    · exact absurd q1 p1
  · rcases q with ⟨q1, _⟩ | ⟨q1, q2, q3, q4, q5⟩
    · exact absurd p1 q1
    · refine ⟨by rw [p4, q4], ⟨xi_of (by rw [f2, p2, q2]), xi_of (by rw [f3, p3, q3])⟩, ?_⟩
      rcases p5 with ⟨s1, s2, s3⟩ | ⟨s1, s2, t, s3, s4, s5⟩
      · rcases q5 with ⟨u1, u2, u3⟩ | ⟨u1, _⟩
        · exact (Rbk.same hU hR ttx trd trl trn tro tlb tun rrl rrn rro run s2 e6 s3 el ey).c hR1 ttx1 tun1 rfl (fun _ _ => rfl) f6 u2 u3
        · exact absurd u1 s1
      · rcases q5 with ⟨u1, _⟩ | ⟨u1, u2, u3, u4, u5⟩
        · exact absurd s1 u1
        · exact Rbk.tell hU hR hR1 ttx trd trl trn tro tlb tun rrl rrn rro run kt e6 (y := y_t.toNat) (by omega) s3 s4 (hok s1) s5 el ey f6 u2 u3 u4 u5
theorem h_feed2 {I I1 I2 : tI} {tp bt mo mb : Nat} {a b c d f r1 r2 : Int32} (R : I tp 1 = I mo 1 ∧ I bt = I mb) (p : ((I tp 1).toInt ≤ 480 ∧ r1.toInt = (I tp 1).toInt + 20 ∧ (I1 tp 1).toInt = (I tp 1).toInt + 20 ∧ I1 bt = q_feed (I bt) (I tp 1).toInt [a, b, c, d, f]) ∨ (480 < (I tp 1).toInt ∧ r1.toInt = -3 ∧ (I1 tp 1).toInt = (I tp 1).toInt ∧ I1 bt = I bt)) (m1 : I1 mo 1 = I mo 1) (mb1 : I1 mb = I mb) (q : ((I1 mo 1).toInt ≤ 480 ∧ r2.toInt = (I1 mo 1).toInt + 20 ∧ (I2 mo 1).toInt = (I1 mo 1).toInt + 20 ∧ I2 mb = q_feed (I1 mb) (I1 mo 1).toInt [a, b, c, d, f]) ∨ (480 < (I1 mo 1).toInt ∧ r2.toInt = -3 ∧ (I2 mo 1).toInt = (I1 mo 1).toInt ∧ I2 mb = I1 mb)) (c1 : I2 tp 1 = I1 tp 1) (c2 : I2 bt = I1 bt) : r1.toInt = r2.toInt ∧ (I2 tp 1 = I2 mo 1 ∧ I2 bt = I2 mb) := by
  obtain ⟨Ra, Rb⟩ := R
  rw [Ra, Rb] at p
  rw [m1, mb1] at q
  rcases p with ⟨p1, p2, p3, p4⟩ | ⟨p1, p2, p3, p4⟩ <;> rcases q with ⟨q1, q2, q3, q4⟩ | ⟨q1, q2, q3, q4⟩
  · exact ⟨by omega, xi_of (by rw [c1]; omega), by rw [c2, p4, q4]⟩
  · omega
  · omega
  · exact ⟨by omega, xi_of (by rw [c1]; omega), by rw [c2, p4, q4]⟩
theorem h_end2 {I I1 I2 : tI} {tp bt mo mb : Nat} {n_t : Int} {r1 r2 : Int32} (R : I tp 1 = I mo 1 ∧ I bt = I mb) (p : (0 ≤ n_t ∧ n_t ≤ (I tp 1).toInt ∧ r1.toInt = n_t ∧ (I1 tp 1).toInt = n_t) ∨ ((n_t < 0 ∨ (I tp 1).toInt < n_t) ∧ r1.toInt = -1 ∧ (I1 tp 1).toInt = (I tp 1).toInt)) (m1 : I1 mo 1 = I mo 1) (q : (0 ≤ n_t ∧ n_t ≤ (I1 mo 1).toInt ∧ r2.toInt = n_t ∧ (I2 mo 1).toInt = n_t) ∨ ((n_t < 0 ∨ (I1 mo 1).toInt < n_t) ∧ r2.toInt = -1 ∧ (I2 mo 1).toInt = (I1 mo 1).toInt)) (c1 : I2 tp 1 = I1 tp 1) (c2 : I2 bt = I bt) (mb1 : I2 mb = I mb) : r1.toInt = r2.toInt ∧ (I2 tp 1 = I2 mo 1 ∧ I2 bt = I2 mb) := by
  obtain ⟨Ra, Rb⟩ := R
  rw [Ra] at p
  rw [m1] at q
  rcases p with ⟨p1, p2, p3, p4⟩ | ⟨p1, p2, p3⟩ <;> rcases q with ⟨q1, q2, q3, q4⟩ | ⟨q1, q2, q3⟩
  · exact ⟨by omega, xi_of (by rw [c1]; omega), by rw [c2, mb1, Rb]⟩
  · omega
  · omega
  · exact ⟨by omega, xi_of (by rw [c1]; omega), by rw [c2, mb1, Rb]⟩
theorem h_tab2 {I I1 I2 : tI} {tp bt bk dt dr rk mo mb tb : Nat} {r1 r2 : Int32} (R : I tp 1 = I mo 1 ∧ I bt = I mb) (Rck : I bk 3 = I mo 12) (Rdr : (I dr (I mo 12).toInt.toNat).toInt = (I mo 31).toInt) (Rtb : I dt 1 = I mo 30) (p : (¬ h_istab (q_at (I bt) (I tp 1).toInt) (I tp 1).toInt ∧ r1.toInt = -1 ∧ (∀ k : Nat, I1 rk k = I rk k) ∧ I1 dt 1 = I dt 1) ∨ (h_istab (q_at (I bt) (I tp 1).toInt) (I tp 1).toInt ∧ (I dr ((I bk 3).toInt).toNat).toInt = 1 ∧ r1.toInt = -4 ∧ (∀ k : Nat, I1 rk k = I rk k) ∧ I1 dt 1 = I dt 1) ∨ (h_istab (q_at (I bt) (I tp 1).toInt) (I tp 1).toInt ∧ (I dr ((I bk 3).toInt).toNat).toInt = 0 ∧ r1.toInt = 1 ∧ (∀ j : Nat, j < 8 → (I1 rk j).toInt = (q_at (I bt) (I tp 1).toInt) j - 65) ∧ I1 dt 1 = 1)) (m1 : I1 mo 1 = I mo 1) (m30 : I1 mo 30 = I mo 30) (m31 : I1 mo 31 = I mo 31) (mb1 : I1 mb = I mb) (q : ((I1 mo 31).toInt = 1 ∧ r2.toInt = -4 ∧ (∀ k : Nat, I2 tb k = I1 tb k) ∧ I2 mo 30 = I1 mo 30) ∨ ((I1 mo 31).toInt = 0 ∧ ¬ h_istab (q_at (I1 mb) (I1 mo 1).toInt) (I1 mo 1).toInt ∧ r2.toInt = -1 ∧ (∀ k : Nat, I2 tb k = I1 tb k) ∧ I2 mo 30 = I1 mo 30) ∨ ((I1 mo 31).toInt = 0 ∧ h_istab (q_at (I1 mb) (I1 mo 1).toInt) (I1 mo 1).toInt ∧ r2.toInt = 1 ∧ (∀ j : Nat, j < 8 → (I2 tb j).toInt = (q_at (I1 mb) (I1 mo 1).toInt) j - 65) ∧ I2 mo 30 = 1)) (c1 : I2 dt 1 = I1 dt 1) : I2 dt 1 = I2 mo 30 := by
  obtain ⟨Ra, Rb⟩ := R
  rw [Ra, Rb, Rck] at p
  rw [m1, m30, m31, mb1] at q
  rw [c1]
  rcases p with ⟨p1, p2, p3, p4⟩ | ⟨p1, p2, p3, p4, p5⟩ | ⟨p1, p2, p3, p4, p5⟩
  · rcases q with ⟨q1, q2, q3, q4⟩ | ⟨q1, q2, q3, q4, q5⟩ | ⟨q1, q2, q3, q4, q5⟩
    · rw [p4, q4, Rtb]
    · rw [p4, q5, Rtb]
    · exact absurd q2 p1
  · rcases q with ⟨q1, q2, q3, q4⟩ | ⟨q1, q2, q3, q4, q5⟩ | ⟨q1, q2, q3, q4, q5⟩
    · rw [p5, q4, Rtb]
    · rw [p5, q5, Rtb]
    · omega
  · rcases q with ⟨q1, q2, q3, q4⟩ | ⟨q1, q2, q3, q4, q5⟩ | ⟨q1, q2, q3, q4, q5⟩
    · omega
    · exact absurd p1 q2
    · rw [p5, q5]
theorem h_fault2 {I : tI} {rd mo : Nat} {x_t : Int} {r1 r2 : Int32} (R : I rd 2 = I mo 8 ∧ I rd 3 = I mo 9) (p : (x_t = 0 ∧ r1 = I rd 2) ∨ (x_t = 1 ∧ r1 = I rd 3) ∨ (x_t ≠ 0 ∧ x_t ≠ 1 ∧ r1 = -1)) (q : (x_t = 0 ∧ r2 = I mo 8) ∨ (x_t = 1 ∧ r2 = I mo 9) ∨ (x_t ≠ 0 ∧ x_t ≠ 1 ∧ r2 = -1)) : r1.toInt = r2.toInt := by
  obtain ⟨Ra, Rb⟩ := R
  rw [Ra, Rb] at p
  rcases p with ⟨p1, p2⟩ | ⟨p1, p2⟩ | ⟨p1, p2, p3⟩ <;> rcases q with ⟨q1, q2⟩ | ⟨q1, q2⟩ | ⟨q1, q2, q3⟩
  · rw [p2, q2]
  · omega
  · omega
  · omega
  · rw [p2, q2]
  · omega
  · omega
  · omega
  · rw [p3, q3]

