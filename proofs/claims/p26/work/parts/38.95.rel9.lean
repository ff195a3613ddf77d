theorem h_gb.hx {z : tZ} {I : tI} {cp mo : Nat} (G : h_gb z I cp mo) (htb : I (h_ad z cp 7) 1 = I mo 30) (J : (I mo 30).toInt = 1 → ∀ c : Int, 0 ≤ c → c ≤ 7 → ∃ k : Nat, k < 8 ∧ (I (h_ad z mo 32) k).toInt = c) : (I (h_ad z cp 7) 1).toInt = 1 → ∀ c : Int, 0 ≤ c → c ≤ 7 → ∃ j : Nat, j < 8 ∧ (I (h_ad z (h_ad z cp 7) 0) j).toInt = c := by
  obtain ⟨gsz, gpl, gdd, gsp, gtu, gmv, grk, gor, glb, gtw, gwp, gpz⟩ := G
  rw [htb]
  intro h c h0 h7
  obtain ⟨k, k8, hk⟩ := J h c h0 h7
  exact ⟨k, k8, by rw [grk k k8]; exact hk⟩
set_option maxHeartbeats 4000000 in
theorem g_chance2 {z : tZ} {I I1 : tI} {cp mo : Nat} {c_t k_t x_t : Int} {u_ : Nat → Int} {r1 r2 : Int64} (G : h_gb z I cp mo) (er : h_er z I I1) (hR : h_R z) (tmo : z.ty mo = 13) (htb : I (h_ad z cp 7) 1 = I mo 30) (hok : q_ok u_) (p : (¬ (0 ≤ c_t ∧ c_t ≤ 7 ∧ 0 ≤ k_t ∧ k_t ≤ 1 ∧ 0 ≤ x_t ∧ x_t ≤ 1) ∧ r1.toInt = -2) ∨ ((0 ≤ c_t ∧ c_t ≤ 7 ∧ 0 ≤ k_t ∧ k_t ≤ 1 ∧ 0 ≤ x_t ∧ x_t ≤ 1) ∧ (I (h_ad z cp 7) 1).toInt = 0 ∧ r1.toInt = -4) ∨ ((0 ≤ c_t ∧ c_t ≤ 7 ∧ 0 ≤ k_t ∧ k_t ≤ 1 ∧ 0 ≤ x_t ∧ x_t ≤ 1) ∧ (I (h_ad z cp 7) 1).toInt = 1 ∧ ∃ rk a b : Int, q_at1 (I (h_ad z (h_ad z cp 7) 0)) c_t rk ∧ q_red (q_chN u_ rk k_t) (q_chD u_ rk k_t) a b ∧ ((x_t = 0 ∧ r1.toInt = a) ∨ (x_t = 1 ∧ r1.toInt = b)))) (q : (¬ (0 ≤ c_t ∧ c_t ≤ 7 ∧ 0 ≤ k_t ∧ k_t ≤ 1 ∧ 0 ≤ x_t ∧ x_t ≤ 1) ∧ r2.toInt = -2) ∨ ((0 ≤ c_t ∧ c_t ≤ 7 ∧ 0 ≤ k_t ∧ k_t ≤ 1 ∧ 0 ≤ x_t ∧ x_t ≤ 1) ∧ (I1 mo 30).toInt = 0 ∧ r2.toInt = -4) ∨ ((0 ≤ c_t ∧ c_t ≤ 7 ∧ 0 ≤ k_t ∧ k_t ≤ 1 ∧ 0 ≤ x_t ∧ x_t ≤ 1) ∧ (I1 mo 30).toInt = 1 ∧ ∃ rk a b : Int, q_at1 (I1 (h_ad z mo 32)) c_t rk ∧ q_red (q_chN u_ rk k_t) (q_chD u_ rk k_t) a b ∧ ((x_t = 0 ∧ r2.toInt = a) ∨ (x_t = 1 ∧ r2.toInt = b)))) : r1.toInt = r2.toInt := by
  have ttb := (hR.ad tmo (rfl : h_rs 13 32 = some (1332, false)) (by decide)).2
  obtain ⟨gsz, gpl, gdd, gsp, gtu, gmv, grk, gor, glb, gtw, gwp, gpz⟩ := G
  rw [htb] at p
  rw [er.at tmo (by decide), er.at ttb (by decide)] at q
  rcases p with ⟨p1, p2⟩ | ⟨p1, p2, p3⟩ | ⟨p1, p2, rk, a, b, p3, p4, p5⟩ <;> rcases q with ⟨q1, q2⟩ | ⟨q1, q2, q3⟩ | ⟨q1, q2, rk1, a1, b1, q3, q4, q5⟩
  · rw [p2, q2]
  · exact absurd q1 p1
  · exact absurd q1 p1
  · exact absurd p1 q1
  · rw [p3, q3]
  · omega
  · exact absurd p1 q1
  · omega
  · have e := p3.eq q3 grk
    rw [← e] at q4
    obtain ⟨e1, e2⟩ := p4.eq (q_chD_pos hok p3.1.1) q4
    rcases p5 with ⟨x1, x2⟩ | ⟨x1, x2⟩ <;> rcases q5 with ⟨y1, y2⟩ | ⟨y1, y2⟩
    · rw [x2, y2, e1]
    · omega
    · omega
    · rw [x2, y2, e2]

