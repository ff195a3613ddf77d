set_option maxHeartbeats 4000000 in
set_option maxRecDepth 100000 in
theorem tX7_findBestR (l : Launch) (E : tE) (X : tX) (A : Nat → Prop) (z : tZ) (I0 : tI) (L0 : tL) (a0 : Nat) (t_a0 : z.ty a0 = 8) (u_ : Nat → Int) (hcl : ∀ b : Nat, h_of (z.R (h_ad z (h_ad z (h_ad z a0 0) 0) 1)) (h_ad z (h_ad z (h_ad z a0 0) 0) 0) (I0 (h_ad z a0 0) 3).toInt b → h_lw I0 b (h_ad z b 0) (h_ad z b 1) u_) (hob : q_okb u_) (hnn : ∀ p : Nat, (p : Int) < (I0 (h_ad z a0 0) 2).toInt → z.R (h_ad z (h_ad z a0 0) 1) p ≠ none) (hU : h_U z) (hwb : ∀ c p : Nat, c < 8 → p < (I0 (h_ad z a0 0) 2).toInt.toNat → 0 ≤ (c_w z I0 (h_ad z a0 0) (c : Int) p).toInt ∧ (c_w z I0 (h_ad z a0 0) (c : Int) p).toInt ≤ 9999) (hpy : ∀ p : Nat, p < (I0 (h_ad z a0 0) 2).toInt.toNat → 0 ≤ ((c_pyp z I0 (h_ad z a0 0)) p).toInt ∧ ((c_pyp z I0 (h_ad z a0 0)) p).toInt ≤ 400000) : Met l yX7_findBest wsX7_findBest ({ frames := 6, cells := 0, slots := 0, locals := 384 }) (va_Pc [.ref a0] (h_P E X A z I0 L0)) (va_Qi (fun r (I1 : tI) => h_I z I1 ∧ h_F [(803, 999), (802, 999), (804, 999), (805, 999), (2, 0), (2, 1), (2, 2), (2, 3), (808, 999), (807, 999), (856, 999), (8, 10), (811, 999), (812, 999), (8, 9)] z I0 I1 ∧ (((r_all (c_G z I0 (h_ad z a0 0) u_) (c_cb z I0 (h_ad z a0 0)) (I0 (h_ad z a0 0) 2).toInt.toNat).2 = [] ∧ r.toInt = -1 ∧ I1 a0 10 = I0 a0 10 ∧ (∀ k : Nat, I1 (h_ad z a0 11) k = I0 (h_ad z a0 11) k) ∧ ∀ k : Nat, I1 (h_ad z a0 12) k = I0 (h_ad z a0 12) k) ∨ ((r_all (c_G z I0 (h_ad z a0 0) u_) (c_cb z I0 (h_ad z a0 0)) (I0 (h_ad z a0 0) 2).toInt.toNat).2 ≠ [] ∧ r.toInt = (r_all (c_G z I0 (h_ad z a0 0) u_) (c_cb z I0 (h_ad z a0 0)) (I0 (h_ad z a0 0) 2).toInt.toNat).1 ∧ (I1 a0 10).toInt = ((r_all (c_G z I0 (h_ad z a0 0) u_) (c_cb z I0 (h_ad z a0 0)) (I0 (h_ad z a0 0) 2).toInt.toNat).2.length : Int) ∧ ∀ i : Nat, i < (r_all (c_G z I0 (h_ad z a0 0) u_) (c_cb z I0 (h_ad z a0 0)) (I0 (h_ad z a0 0) 2).toInt.toNat).2.length → (I1 (h_ad z a0 11) i).toInt = ((r_all (c_G z I0 (h_ad z a0 0) u_) (c_cb z I0 (h_ad z a0 0)) (I0 (h_ad z a0 0) 2).toInt.toNat).2.getD i (0, 0)).1 ∧ (I1 (h_ad z a0 12) i).toInt = ((((r_all (c_G z I0 (h_ad z a0 0) u_) (c_cb z I0 (h_ad z a0 0)) (I0 (h_ad z a0 0) 2).toInt.toNat).2.getD i (0, 0)).2 : Nat) : Int)))) (fun (I1 : tI) t => h_B E A z I1 L0 t) A) 0 0 A := by
  refine Met.ofW (cc := cX7_findBest) (maxL := 4) (ret := (some .int)) (by decide) rfl ?_
  intro pr_ ev_ s m args below meth cd_ s₁ B hml hv
  obtain ⟨rfl, hE, hk, hX, hA, hK, hI, hR, hB0⟩ := hv
  have g : h_G h_so h_fk E A z I0 L0 s s.heap s.heap [] := ⟨hK, va_S.rf, hB0⟩
  have hF : h_F [(803, 999), (802, 999), (804, 999), (805, 999), (2, 0), (2, 1), (2, 2), (2, 3), (808, 999), (807, 999), (856, 999), (8, 10), (811, 999), (812, 999), (8, 9)] z I0 I0 := h_F.rf
  have hx := B.exec
  have hb := B.bytes
  have hr := B.returns
  have hts := atoms_spec (ws := wsX7_findBest) B.pre
  have hown : s.vm.findClass RX7 = some m.cls := findClass_of_methodNamed B.named
  have hlocks := B.notSynchronized
  have iX7 : ∀ w ∈ u_ws RX7 TX7 13, w ∈ wsX7_findBest := by decide +kernel
  have hl := lv_entry ([.ref a0]) (n := 4) (Nat.le_of_ble_eq_true rfl)
  rw [lg_entry_eq]
  generalize (lg_sl ([.ref a0]) ++ List.replicate (4 - (lg_sl ([.ref a0])).length) Slot.unset).toArray = ls at hl ⊢
  have hl : lv_has ls 4 [(0, .ref a0)] := hl
  obtain ⟨bk, rbk, tbk⟩ := hR.at a0 0 t_a0 (rfl : h_rs 8 0 = some (1, false)) (by decide)
  have abk : h_ad z a0 0 = bk := h_ad.at rbk
  obtain ⟨ln, rln, tln⟩ := hR.at a0 2 t_a0 (rfl : h_rs 8 2 = some (802, false)) (by decide)
  have aln : h_ad z a0 2 = ln := h_ad.at rln
  obtain ⟨st, rst, tst⟩ := hR.at a0 3 t_a0 (rfl : h_rs 8 3 = some (803, false)) (by decide)
  have ast : h_ad z a0 3 = st := h_ad.at rst
  obtain ⟨pa, rpa, tpa⟩ := hR.at a0 4 t_a0 (rfl : h_rs 8 4 = some (804, false)) (by decide)
  have apa : h_ad z a0 4 = pa := h_ad.at rpa
  obtain ⟨co, rco, tco⟩ := hR.at a0 5 t_a0 (rfl : h_rs 8 5 = some (805, false)) (by decide)
  have aco : h_ad z a0 5 = co := h_ad.at rco
  obtain ⟨gn, rgn, tgn⟩ := hR.at a0 6 t_a0 (rfl : h_rs 8 6 = some (806, false)) (by decide)
  have agn : h_ad z a0 6 = gn := h_ad.at rgn
  obtain ⟨pt, rpt, tpt⟩ := hR.at a0 7 t_a0 (rfl : h_rs 8 7 = some (807, false)) (by decide)
  have apt : h_ad z a0 7 = pt := h_ad.at rpt
  obtain ⟨ct, rct, tct⟩ := hR.at a0 8 t_a0 (rfl : h_rs 8 8 = some (808, false)) (by decide)
  have act : h_ad z a0 8 = ct := h_ad.at rct
  obtain ⟨cr, rcr, tcr⟩ := hR.at a0 11 t_a0 (rfl : h_rs 8 11 = some (811, false)) (by decide)
  have acr : h_ad z a0 11 = cr := h_ad.at rcr
  obtain ⟨pr, rpr, tpr⟩ := hR.at a0 12 t_a0 (rfl : h_rs 8 12 = some (812, false)) (by decide)
  have apr : h_ad z a0 12 = pr := h_ad.at rpr
  obtain ⟨pl, rpl, tpl⟩ := hR.at bk 1 tbk (rfl : h_rs 1 1 = some (101, false)) (by decide)
  have apl : h_ad z bk 1 = pl := h_ad.at rpl
  obtain ⟨f0_2, ef0_2⟩ : ∃ v : Int32, v = I0 bk 2 := ⟨_, rfl⟩
  have qf0_2 : (I0 bk 2).toInt = f0_2.toInt := congrArg Int32.toInt ef0_2.symm
  have jf0_2 := hI.rd bk 2 tbk ef0_2 (rfl : h_bd 1 2 = (0, 60))
  obtain ⟨f0_3, ef0_3⟩ : ∃ v : Int32, v = I0 bk 3 := ⟨_, rfl⟩
  have qf0_3 : (I0 bk 3).toInt = f0_3.toInt := congrArg Int32.toInt ef0_3.symm
  have jf0_3 := hI.rd bk 3 tbk ef0_3 (rfl : h_bd 1 3 = (0, 9))
  obtain ⟨f0_10, ef0_10⟩ : ∃ v : Int32, v = I0 a0 10 := ⟨_, rfl⟩
  have qf0_10 : (I0 a0 10).toInt = f0_10.toInt := congrArg Int32.toInt ef0_10.symm
  have jf0_10 := hI.rd a0 10 t_a0 ef0_10 (rfl : h_bd 8 10 = (0, 3))
  obtain ⟨lb, rlb, tlb⟩ := hR.at bk 0 tbk (rfl : h_rs 1 0 = some (4, false)) (by decide)
  have alb : h_ad z bk 0 = lb := h_ad.at rlb
  obtain ⟨un, run, tun⟩ := hR.at lb 0 tlb (rfl : h_rs 4 0 = some (6, false)) (by decide)
  have aun : h_ad z lb 0 = un := h_ad.at run
  obtain ⟨tx, rtx, ttx⟩ := hR.at lb 1 tlb (rfl : h_rs 4 1 = some (401, false)) (by decide)
  have atx : h_ad z lb 1 = tx := h_ad.at rtx
  have hclB := hcl
  have hnnB := hnn
  rw [abk, alb, aun, atx, qf0_3] at hcl
  rw [abk, apl, qf0_2] at hnn
  obtain ⟨CB, eCB⟩ : ∃ f : Nat → Int32, f = c_cb z I0 bk := ⟨_, rfl⟩
  obtain ⟨PP, ePP⟩ : ∃ f : Nat → Int32, f = c_pyp z I0 bk := ⟨_, rfl⟩
  obtain ⟨QQ, eQQ⟩ : ∃ f : Nat → Int32, f = c_ctp z I0 bk (u_ 6) := ⟨_, rfl⟩
  obtain ⟨GG, eGG⟩ : ∃ f : Int → Nat → Nat → Int, f = c_G z I0 bk u_ := ⟨_, rfl⟩
  obtain ⟨N, eN⟩ : ∃ n : Nat, n = f0_2.toInt.toNat := ⟨_, rfl⟩
  rw [abk, qf0_2, ← eN] at hwb hpy
  rw [← ePP] at hpy
  refine lv_aload_n hx hb dX7_findBest_0 rfl (lv_at hl 0 rfl) ?_
  refine va_callv (va_runV (As := []) (rest := []) ⟨hx, hb, hml, hown, hts⟩ (tX7_lineUpR l E X A z I0 L0 a0 t_a0 (u_) (hclB) (hob) (hnnB)) (cwV 0 hts gX7_findBest_X7_lineUp rfl rfl rfl (by decide +kernel) ⟨Nat.le_of_ble_eq_true rfl, Nat.le_of_ble_eq_true rfl⟩) ⟨h_blind _ _ _ _ _ _ _, h_recv g t_a0 (by decide) so_8 (q := (RX7, TX7, 13)) rfl, h_pre _ hE hk hX hA hI hR g⟩ rfl rfl hl.1 rfl (lv_room (Nat.le_of_ble_eq_true rfl)) dX7_findBest_1 ⟨Nat.le_of_ble_eq_true rfl, Nat.le_of_ble_eq_true rfl⟩) g.2.1 (fun q _ h => h) (fun q h => h) (fun I2 t H1 locs ht hvm h1 hB hz1 hk1 hS => ?_)
  obtain ⟨hI, fh1, h1⟩ := h1
  replace g := h_after g hB ht hS
  generalize H1 = H at g
  clear hB hk1 hz1 ht hvm hS
  have hF := hF.call fh1 rfl
  have h1p0 := h1
  rw [abk, ast, aln, apa, aco, ← eCB, ← ePP, ← eQQ, qf0_2, ← eN] at h1p0
  obtain ⟨hst0, hlq0⟩ := h1p0
  refine lv_iconst (v := 0) hx hb dX7_findBest_4 (by decide) ?_
  refine lv_istore_n (lv' := [(1, .int 0), (0, .ref a0)]) hx hb dX7_findBest_5 rfl hl (by decide) rfl (fun ls hl => ?_)
  have loop6_0 : ∀ (n : Nat) (I4 : tI) (H : Heap) (locs : List Loc) (ls : Array Slot) (v3 : Int32), h_G h_so h_fk E A z I4 L0 s s.heap H locs → h_I z I4 → h_F [(803, 999), (802, 999), (804, 999), (805, 999), (2, 0), (2, 1), (2, 2), (2, 3), (808, 999), (807, 999), (856, 999), (8, 10), (811, 999), (812, 999), (8, 9)] z I0 I4 → lv_has ls 4 [(0, .ref a0), (1, .int v3)] → (0 ≤ v3.toInt ∧ v3.toInt ≤ 8) → h_F [(2, 0), (2, 1), (2, 2), (2, 3), (808, 999), (807, 999), (856, 999)] z I2 I4 → (c_st I4 st N CB 9) → (c_lq I4 ln pa co N CB PP QQ 8 0) → (∀ c p : Nat, c < (v3.toInt).toNat → p < N → (CB p).toInt = (c : Int) → c_gp z I4 gn pt N CB GG (c : Int) p ∧ (I4 pt p).toInt ≤ (I4 ct c).toInt) → (∀ c : Nat, c < (v3.toInt).toNat → 0 ≤ (I4 ct c).toInt ∧ (I4 ct c).toInt ≤ 9999) → (8 - v3.toInt) < (n : Int) → W pr_ l ev_ (headSpec wsX7_findBest ({ frames := 6, cells := 0, slots := 0, locals := 384 })).room s m ([.ref a0] : List Value).toArray below meth cd_ H locs 0 0 (MQ below (va_Qi (fun r (I1 : tI) => h_I z I1 ∧ h_F [(803, 999), (802, 999), (804, 999), (805, 999), (2, 0), (2, 1), (2, 2), (2, 3), (808, 999), (807, 999), (856, 999), (8, 10), (811, 999), (812, 999), (8, 9)] z I0 I1 ∧ (((r_all (c_G z I0 (h_ad z a0 0) u_) (c_cb z I0 (h_ad z a0 0)) (I0 (h_ad z a0 0) 2).toInt.toNat).2 = [] ∧ r.toInt = -1 ∧ I1 a0 10 = I0 a0 10 ∧ (∀ k : Nat, I1 (h_ad z a0 11) k = I0 (h_ad z a0 11) k) ∧ ∀ k : Nat, I1 (h_ad z a0 12) k = I0 (h_ad z a0 12) k) ∨ ((r_all (c_G z I0 (h_ad z a0 0) u_) (c_cb z I0 (h_ad z a0 0)) (I0 (h_ad z a0 0) 2).toInt.toNat).2 ≠ [] ∧ r.toInt = (r_all (c_G z I0 (h_ad z a0 0) u_) (c_cb z I0 (h_ad z a0 0)) (I0 (h_ad z a0 0) 2).toInt.toNat).1 ∧ (I1 a0 10).toInt = ((r_all (c_G z I0 (h_ad z a0 0) u_) (c_cb z I0 (h_ad z a0 0)) (I0 (h_ad z a0 0) 2).toInt.toNat).2.length : Int) ∧ ∀ i : Nat, i < (r_all (c_G z I0 (h_ad z a0 0) u_) (c_cb z I0 (h_ad z a0 0)) (I0 (h_ad z a0 0) 2).toInt.toNat).2.length → (I1 (h_ad z a0 11) i).toInt = ((r_all (c_G z I0 (h_ad z a0 0) u_) (c_cb z I0 (h_ad z a0 0)) (I0 (h_ad z a0 0) 2).toInt.toNat).2.getD i (0, 0)).1 ∧ (I1 (h_ad z a0 12) i).toInt = ((((r_all (c_G z I0 (h_ad z a0 0) u_) (c_cb z I0 (h_ad z a0 0)) (I0 (h_ad z a0 0) 2).toInt.toNat).2.getD i (0, 0)).2 : Nat) : Int)))) (fun (I1 : tI) t => h_B E A z I1 L0 t) A) ([.ref a0] : List Value).toArray s 0 0 A) (F0 m 6 ls []) := by
    intro n
    induction n with
    | zero => intro I4 H locs ls v3 g hI hF hl jv3 hL6 hx6_0 hx6_1 hx6_2 hx6_3 hn; exact absurd hn (by omega)
    | succ n ih6 =>
      intro I4 H locs ls v3 g hI hF hl jv3 hL6 hx6_0 hx6_1 hx6_2 hx6_3 hn
      refine lv_iload_n hx hb dX7_findBest_6 rfl (lv_at hl 1 rfl) ?_
      refine lv_bipush (v := 8) hx hb dX7_findBest_7 (by decide) ?_
      refine lv_icmp_ge (tgt := 23) hx hb dX7_findBest_9 (by decide) (fun c5 => ?_) (fun c5 => ?_)
      · have ic5 := (xi_le c5 (by decide) rfl : 8 ≤ v3.toInt)
        have k8 : v3.toInt.toNat = 8 := (by omega)
        have hgr : c_gr z I4 a0 N CB GG := by unfold c_gr; rw [ast, aln, agn, apt, act]; rw [k8] at hx6_2 hx6_3; exact ⟨by omega, hx6_0, fun d q hd hq hdq => (hx6_1 d q (Or.inl hd) hq hdq).1, hx6_2, hx6_3⟩
        refine lv_aload_n hx hb dX7_findBest_23 rfl (lv_at hl 0 rfl) ?_
        refine lv_iconst (v := 0) hx hb dX7_findBest_24 (by decide) ?_
        refine h_putI (ty := .int) (v := 0) hx hb hts iX7 tyX7 tyX7_ok nmX7 hown g t_a0 (by decide) so_8 rfl 9 (by decide) rfl (hts (.fieldLink RX7 59 "CapLeague$RingSearch" "best" "I") (by decide +kernel)) rfl rfl (by decide +kernel) rfl rfl dX7_findBest_25 (fun I6 H locs eI6 g => ?_)
        have hI := hI.wr eI6 t_a0 (rfl : h_bd 8 9 = ((-2147483648), 2147483647)) (by decide) (by decide)
        have hF := hF.wr eI6 t_a0 rfl
        have hs00 : c_rs z I0 I6 a0 (0, []) := by unfold c_rs; rw [acr, apr, h_n0 eI6]; exact ⟨by decide, Or.inl ⟨rfl, ((h_n2 eI6 (by decide)).trans ((h_F.at hL6 t_a0 rfl).trans ((h_F.at fh1 t_a0 rfl).trans (ef0_10.symm)))).trans ef0_10, (fun k => (h_n1 eI6 tcr t_a0 (by decide)).trans ((h_F.at hL6 tcr rfl).trans (h_F.at fh1 tcr rfl))), fun k => (h_n1 eI6 tpr t_a0 (by decide)).trans ((h_F.at hL6 tpr rfl).trans (h_F.at fh1 tpr rfl))⟩⟩
        refine lv_iconst (v := 0) hx hb dX7_findBest_28 (by decide) ?_
        refine lv_istore_n (lv' := [(1, .int 0), (0, .ref a0)]) hx hb dX7_findBest_29 rfl hl (by decide) rfl (fun ls hl => ?_)
        have loop30_1 : ∀ (n : Nat) (I8 : tI) (H : Heap) (locs : List Loc) (ls : Array Slot) (v7 : Int32), h_G h_so h_fk E A z I8 L0 s s.heap H locs → h_I z I8 → h_F [(803, 999), (802, 999), (804, 999), (805, 999), (2, 0), (2, 1), (2, 2), (2, 3), (808, 999), (807, 999), (856, 999), (8, 10), (811, 999), (812, 999), (8, 9)] z I0 I8 → lv_has ls 4 [(0, .ref a0), (1, .int v7)] → (0 ≤ v7.toInt ∧ v7.toInt ≤ 8) → h_F [(8, 10), (811, 999), (812, 999), (8, 9)] z I6 I8 → (c_rs z I0 I8 a0 (r_up (fun (a : Int) (s : tS) => r_up (fun (b : Int) (s : tS) => r_two GG CB N a b s) (a + 1) (7 - a).toNat s) 0 (v7.toInt).toNat (0, []))) → (8 - v7.toInt) < (n : Int) → W pr_ l ev_ (headSpec wsX7_findBest ({ frames := 6, cells := 0, slots := 0, locals := 384 })).room s m ([.ref a0] : List Value).toArray below meth cd_ H locs 0 0 (MQ below (va_Qi (fun r (I1 : tI) => h_I z I1 ∧ h_F [(803, 999), (802, 999), (804, 999), (805, 999), (2, 0), (2, 1), (2, 2), (2, 3), (808, 999), (807, 999), (856, 999), (8, 10), (811, 999), (812, 999), (8, 9)] z I0 I1 ∧ (((r_all (c_G z I0 (h_ad z a0 0) u_) (c_cb z I0 (h_ad z a0 0)) (I0 (h_ad z a0 0) 2).toInt.toNat).2 = [] ∧ r.toInt = -1 ∧ I1 a0 10 = I0 a0 10 ∧ (∀ k : Nat, I1 (h_ad z a0 11) k = I0 (h_ad z a0 11) k) ∧ ∀ k : Nat, I1 (h_ad z a0 12) k = I0 (h_ad z a0 12) k) ∨ ((r_all (c_G z I0 (h_ad z a0 0) u_) (c_cb z I0 (h_ad z a0 0)) (I0 (h_ad z a0 0) 2).toInt.toNat).2 ≠ [] ∧ r.toInt = (r_all (c_G z I0 (h_ad z a0 0) u_) (c_cb z I0 (h_ad z a0 0)) (I0 (h_ad z a0 0) 2).toInt.toNat).1 ∧ (I1 a0 10).toInt = ((r_all (c_G z I0 (h_ad z a0 0) u_) (c_cb z I0 (h_ad z a0 0)) (I0 (h_ad z a0 0) 2).toInt.toNat).2.length : Int) ∧ ∀ i : Nat, i < (r_all (c_G z I0 (h_ad z a0 0) u_) (c_cb z I0 (h_ad z a0 0)) (I0 (h_ad z a0 0) 2).toInt.toNat).2.length → (I1 (h_ad z a0 11) i).toInt = ((r_all (c_G z I0 (h_ad z a0 0) u_) (c_cb z I0 (h_ad z a0 0)) (I0 (h_ad z a0 0) 2).toInt.toNat).2.getD i (0, 0)).1 ∧ (I1 (h_ad z a0 12) i).toInt = ((((r_all (c_G z I0 (h_ad z a0 0) u_) (c_cb z I0 (h_ad z a0 0)) (I0 (h_ad z a0 0) 2).toInt.toNat).2.getD i (0, 0)).2 : Nat) : Int)))) (fun (I1 : tI) t => h_B E A z I1 L0 t) A) ([.ref a0] : List Value).toArray s 0 0 A) (F0 m 30 ls []) := by
          intro n
          induction n with
          | zero => intro I8 H locs ls v7 g hI hF hl jv7 hL30 hx30_0 hn; exact absurd hn (by omega)
          | succ n ih30 =>
            intro I8 H locs ls v7 g hI hF hl jv7 hL30 hx30_0 hn
            refine lv_iload_n hx hb dX7_findBest_30 rfl (lv_at hl 1 rfl) ?_
            refine lv_bipush (v := 8) hx hb dX7_findBest_31 (by decide) ?_
            refine lv_icmp_ge (tgt := 64) hx hb dX7_findBest_33 (by decide) (fun c9 => ?_) (fun c9 => ?_)
            · have ic9 := (xi_le c9 (by decide) rfl : 8 ≤ v7.toInt)
              refine lv_iconst (v := 0) hx hb dX7_findBest_64 (by decide) ?_
              refine lv_istore_n (lv' := [(1, .int 0), (0, .ref a0)]) hx hb dX7_findBest_65 rfl hl (by decide) rfl (fun ls hl => ?_)
              have loop66_2 : ∀ (n : Nat) (I11 : tI) (H : Heap) (locs : List Loc) (ls : Array Slot) (v10 : Int32), h_G h_so h_fk E A z I11 L0 s s.heap H locs → h_I z I11 → h_F [(803, 999), (802, 999), (804, 999), (805, 999), (2, 0), (2, 1), (2, 2), (2, 3), (808, 999), (807, 999), (856, 999), (8, 10), (811, 999), (812, 999), (8, 9)] z I0 I11 → lv_has ls 4 [(0, .ref a0), (1, .int v10)] → (0 ≤ v10.toInt ∧ v10.toInt ≤ 8) → h_F [(8, 10), (811, 999), (812, 999), (8, 9)] z I8 I11 → (c_rs z I0 I11 a0 (r_up (fun (a : Int) (s : tS) => r_up (fun (b : Int) (s : tS) => r_up (fun (c : Int) (s : tS) => if c = b then s else r_thr GG CB N a b c s) (a + 1) (7 - a).toNat s) (a + 1) (7 - a).toNat s) 0 (v10.toInt).toNat (r_al2 GG CB N (0, [])))) → (8 - v10.toInt) < (n : Int) → W pr_ l ev_ (headSpec wsX7_findBest ({ frames := 6, cells := 0, slots := 0, locals := 384 })).room s m ([.ref a0] : List Value).toArray below meth cd_ H locs 0 0 (MQ below (va_Qi (fun r (I1 : tI) => h_I z I1 ∧ h_F [(803, 999), (802, 999), (804, 999), (805, 999), (2, 0), (2, 1), (2, 2), (2, 3), (808, 999), (807, 999), (856, 999), (8, 10), (811, 999), (812, 999), (8, 9)] z I0 I1 ∧ (((r_all (c_G z I0 (h_ad z a0 0) u_) (c_cb z I0 (h_ad z a0 0)) (I0 (h_ad z a0 0) 2).toInt.toNat).2 = [] ∧ r.toInt = -1 ∧ I1 a0 10 = I0 a0 10 ∧ (∀ k : Nat, I1 (h_ad z a0 11) k = I0 (h_ad z a0 11) k) ∧ ∀ k : Nat, I1 (h_ad z a0 12) k = I0 (h_ad z a0 12) k) ∨ ((r_all (c_G z I0 (h_ad z a0 0) u_) (c_cb z I0 (h_ad z a0 0)) (I0 (h_ad z a0 0) 2).toInt.toNat).2 ≠ [] ∧ r.toInt = (r_all (c_G z I0 (h_ad z a0 0) u_) (c_cb z I0 (h_ad z a0 0)) (I0 (h_ad z a0 0) 2).toInt.toNat).1 ∧ (I1 a0 10).toInt = ((r_all (c_G z I0 (h_ad z a0 0) u_) (c_cb z I0 (h_ad z a0 0)) (I0 (h_ad z a0 0) 2).toInt.toNat).2.length : Int) ∧ ∀ i : Nat, i < (r_all (c_G z I0 (h_ad z a0 0) u_) (c_cb z I0 (h_ad z a0 0)) (I0 (h_ad z a0 0) 2).toInt.toNat).2.length → (I1 (h_ad z a0 11) i).toInt = ((r_all (c_G z I0 (h_ad z a0 0) u_) (c_cb z I0 (h_ad z a0 0)) (I0 (h_ad z a0 0) 2).toInt.toNat).2.getD i (0, 0)).1 ∧ (I1 (h_ad z a0 12) i).toInt = ((((r_all (c_G z I0 (h_ad z a0 0) u_) (c_cb z I0 (h_ad z a0 0)) (I0 (h_ad z a0 0) 2).toInt.toNat).2.getD i (0, 0)).2 : Nat) : Int)))) (fun (I1 : tI) t => h_B E A z I1 L0 t) A) ([.ref a0] : List Value).toArray s 0 0 A) (F0 m 66 ls []) := by
                intro n
                induction n with
                | zero => intro I11 H locs ls v10 g hI hF hl jv10 hL66 hx66_0 hn; exact absurd hn (by omega)
                | succ n ih66 =>
                  intro I11 H locs ls v10 g hI hF hl jv10 hL66 hx66_0 hn
                  refine lv_iload_n hx hb dX7_findBest_66 rfl (lv_at hl 1 rfl) ?_
                  refine lv_bipush (v := 8) hx hb dX7_findBest_67 (by decide) ?_
                  refine lv_icmp_ge (tgt := 122) hx hb dX7_findBest_69 (by decide) (fun c12 => ?_) (fun c12 => ?_)
                  · have ic12 := (xi_le c12 (by decide) rfl : 8 ≤ v10.toInt)
                    have hsA := hx66_0
                    rw [show (v10.toInt).toNat = 8 by omega, r_al3_e, r_all_e] at hsA
                    have hok := r_ok_all (g := GG) (cb := CB) (n := N)
                    obtain ⟨R, eR⟩ : ∃ t : tS, t = r_all GG CB N := ⟨_, rfl⟩
                    rw [← eR] at hsA hok
                    unfold c_rs at hsA
                    rw [acr, apr] at hsA
                    obtain ⟨hsA1, hsA2⟩ := hsA
                    unfold r_ok at hok
                    obtain ⟨v13, ev13⟩ : ∃ v : Int32, v = I11 a0 9 := ⟨_, rfl⟩
                    rw [← ev13] at hsA1
                    refine lv_aload_n hx hb dX7_findBest_122 rfl (lv_at hl 0 rfl) ?_
                    refine h_get (v := .int v13) hx hb hts iX7 hown g t_a0 (by decide) so_8 rfl 9 (by decide) (hts (.fieldLink RX7 59 "CapLeague$RingSearch" "best" "I") (by decide +kernel)) rfl dX7_findBest_123 (congrArg Value.int (ev13.symm)) ?_
                    refine lv_if_le (tgt := 136) hx hb dX7_findBest_126 (by decide) (fun c14 => ?_) (fun c14 => ?_)
                    · have ic14 := (xi_le c14 rfl (by decide) : v13.toInt ≤ 0)
                      refine lv_iconst (v := (-1)) hx hb dX7_findBest_136 (by decide) ?_
                      have hS := g.2.1
                      exact W.iret (v := (-1)) hx hb hr (fun t ht hW => ⟨⟨(-1), I11, rfl, ⟨hI, hF, (by rw [abk, qf0_2, ← eN, ← eCB, ← eGG, ← eR, acr, apr]; have hn : R.2 = [] := (by rcases hok with q | q; exact q.2; omega); rcases hsA2 with q | q; exact Or.inl ⟨hn, by decide, q.2.1, q.2.2.1, q.2.2.2⟩; exact absurd hn q.1)⟩, h_ret g ht⟩, hS.F ht⟩) hS.2.2 dX7_findBest_137
                    · have ic14 := (xi_nle c14 rfl (by decide) : 0 < v13.toInt)
                      refine lv_aload_n hx hb dX7_findBest_129 rfl (lv_at hl 0 rfl) ?_
                      refine h_get (v := .int v13) hx hb hts iX7 hown g t_a0 (by decide) so_8 rfl 9 (by decide) (hts (.fieldLink RX7 59 "CapLeague$RingSearch" "best" "I") (by decide +kernel)) rfl dX7_findBest_130 (congrArg Value.int (ev13.symm)) ?_
                      refine lv_goto (tgt := 137) hx hb dX7_findBest_133 (by decide) ?_
                      have hS := g.2.1
                      exact W.iret (v := v13) hx hb hr (fun t ht hW => ⟨⟨v13, I11, rfl, ⟨hI, hF, (by rw [abk, qf0_2, ← eN, ← eCB, ← eGG, ← eR, acr, apr]; have hn : R.2 ≠ [] := (by rcases hok with q | q; omega; exact q.2.1); rcases hsA2 with q | q; exact absurd q.1 hn; exact Or.inr ⟨hn, hsA1, q.2.1, q.2.2⟩)⟩, h_ret g ht⟩, hS.F ht⟩) hS.2.2 dX7_findBest_137
                  · have ic12 := (xi_nle c12 (by decide) rfl : v10.toInt < 8)
                    refine lv_iload_n hx hb dX7_findBest_72 rfl (lv_at hl 1 rfl) ?_
                    refine lv_iconst (v := 1) hx hb dX7_findBest_73 (by decide) ?_
                    refine lv_iadd hx hb dX7_findBest_74 ?_
                    refine lv_topi (fun v15 ev15 => ?_)
                    have jv15 : v15.toInt = v10.toInt + 1 := xi_add ev15 rfl (by decide) (by omega) (by omega)
                    refine lv_istore_n (lv' := [(2, .int v15), (0, .ref a0), (1, .int v10)]) hx hb dX7_findBest_75 rfl hl (by decide) rfl (fun ls hl => ?_)
                    have loop76_3 : ∀ (n : Nat) (I17 : tI) (H : Heap) (locs : List Loc) (ls : Array Slot) (v16 : Int32), h_G h_so h_fk E A z I17 L0 s s.heap H locs → h_I z I17 → h_F [(803, 999), (802, 999), (804, 999), (805, 999), (2, 0), (2, 1), (2, 2), (2, 3), (808, 999), (807, 999), (856, 999), (8, 10), (811, 999), (812, 999), (8, 9)] z I0 I17 → lv_has ls 4 [(0, .ref a0), (1, .int v10), (2, .int v16)] → (1 ≤ v16.toInt ∧ v16.toInt ≤ 8) → h_F [(8, 10), (811, 999), (812, 999), (8, 9)] z I11 I17 → (c_rs z I0 I17 a0 (r_up (fun (b : Int) (s : tS) => r_up (fun (c : Int) (s : tS) => if c = b then s else r_thr GG CB N v10.toInt b c s) (v10.toInt + 1) (7 - v10.toInt).toNat s) (v10.toInt + 1) (v16.toInt - v10.toInt - 1).toNat (r_up (fun (a : Int) (s : tS) => r_up (fun (b : Int) (s : tS) => r_up (fun (c : Int) (s : tS) => if c = b then s else r_thr GG CB N a b c s) (a + 1) (7 - a).toNat s) (a + 1) (7 - a).toNat s) 0 (v10.toInt).toNat (r_al2 GG CB N (0, []))))) → (v10.toInt + 1 ≤ v16.toInt) → (8 - v16.toInt) < (n : Int) → W pr_ l ev_ (headSpec wsX7_findBest ({ frames := 6, cells := 0, slots := 0, locals := 384 })).room s m ([.ref a0] : List Value).toArray below meth cd_ H locs 0 0 (MQ below (va_Qi (fun r (I1 : tI) => h_I z I1 ∧ h_F [(803, 999), (802, 999), (804, 999), (805, 999), (2, 0), (2, 1), (2, 2), (2, 3), (808, 999), (807, 999), (856, 999), (8, 10), (811, 999), (812, 999), (8, 9)] z I0 I1 ∧ (((r_all (c_G z I0 (h_ad z a0 0) u_) (c_cb z I0 (h_ad z a0 0)) (I0 (h_ad z a0 0) 2).toInt.toNat).2 = [] ∧ r.toInt = -1 ∧ I1 a0 10 = I0 a0 10 ∧ (∀ k : Nat, I1 (h_ad z a0 11) k = I0 (h_ad z a0 11) k) ∧ ∀ k : Nat, I1 (h_ad z a0 12) k = I0 (h_ad z a0 12) k) ∨ ((r_all (c_G z I0 (h_ad z a0 0) u_) (c_cb z I0 (h_ad z a0 0)) (I0 (h_ad z a0 0) 2).toInt.toNat).2 ≠ [] ∧ r.toInt = (r_all (c_G z I0 (h_ad z a0 0) u_) (c_cb z I0 (h_ad z a0 0)) (I0 (h_ad z a0 0) 2).toInt.toNat).1 ∧ (I1 a0 10).toInt = ((r_all (c_G z I0 (h_ad z a0 0) u_) (c_cb z I0 (h_ad z a0 0)) (I0 (h_ad z a0 0) 2).toInt.toNat).2.length : Int) ∧ ∀ i : Nat, i < (r_all (c_G z I0 (h_ad z a0 0) u_) (c_cb z I0 (h_ad z a0 0)) (I0 (h_ad z a0 0) 2).toInt.toNat).2.length → (I1 (h_ad z a0 11) i).toInt = ((r_all (c_G z I0 (h_ad z a0 0) u_) (c_cb z I0 (h_ad z a0 0)) (I0 (h_ad z a0 0) 2).toInt.toNat).2.getD i (0, 0)).1 ∧ (I1 (h_ad z a0 12) i).toInt = ((((r_all (c_G z I0 (h_ad z a0 0) u_) (c_cb z I0 (h_ad z a0 0)) (I0 (h_ad z a0 0) 2).toInt.toNat).2.getD i (0, 0)).2 : Nat) : Int)))) (fun (I1 : tI) t => h_B E A z I1 L0 t) A) ([.ref a0] : List Value).toArray s 0 0 A) (F0 m 76 ls []) := by
                      intro n
                      induction n with
                      | zero => intro I17 H locs ls v16 g hI hF hl jv16 hL76 hx76_0 hx76_1 hn; exact absurd hn (by omega)
                      | succ n ih76 =>
                        intro I17 H locs ls v16 g hI hF hl jv16 hL76 hx76_0 hx76_1 hn
                        refine lv_iload_n hx hb dX7_findBest_76 rfl (lv_at hl 2 rfl) ?_
                        refine lv_bipush (v := 8) hx hb dX7_findBest_77 (by decide) ?_
                        refine lv_icmp_ge (tgt := 116) hx hb dX7_findBest_79 (by decide) (fun c18 => ?_) (fun c18 => ?_)
                        · have ic18 := (xi_le c18 (by decide) rfl : 8 ≤ v16.toInt)
                          obtain ⟨v19, ev19⟩ : ∃ z : Int32, z = v10 + 1 := ⟨_, rfl⟩
                          have jv19 : v19.toInt = v10.toInt + 1 := xi_add ev19 rfl (by decide) (by omega) (by omega)
                          refine lv_iinc (v := v19) (lv' := [(1, .int v19), (0, .ref a0), (2, .int v16)]) hx hb dX7_findBest_116 hl (k := 1) rfl (by rw [ev19]; rfl) (by decide) rfl (fun ls hl => ?_)
                          refine lv_goto (tgt := 66) hx hb dX7_findBest_119 (by decide) ?_
                          exact ih66 I17 _ _ _ v19 g hI hF (lv_sub hl [1, 0] rfl) (by omega) (h_F.call (h_F.call (h_F.rf : h_F [(8, 10), (811, 999), (812, 999), (8, 9)] z I8 I8) hL66 rfl) hL76 rfl) (by rw [show (v19.toInt).toNat = v10.toInt.toNat + 1 by omega, r_up_1, show (0 + ((v10.toInt.toNat : Nat) : Int)) = v10.toInt by omega]; have h9 := hx76_0; rw [show (v16.toInt - v10.toInt - 1).toNat = (7 - v10.toInt).toNat by omega] at h9; exact h9) (by omega)
                        · have ic18 := (xi_nle c18 (by decide) rfl : v16.toInt < 8)
                          refine lv_iload_n hx hb dX7_findBest_82 rfl (lv_at hl 1 rfl) ?_
                          refine lv_iconst (v := 1) hx hb dX7_findBest_83 (by decide) ?_
                          refine lv_iadd hx hb dX7_findBest_84 ?_
                          refine xw_i (v := v15) ev15.symm ?_
                          refine lv_istore_n (lv' := [(3, .int v15), (0, .ref a0), (1, .int v10), (2, .int v16)]) hx hb dX7_findBest_85 rfl hl (by decide) rfl (fun ls hl => ?_)
                          have loop86_4 : ∀ (n : Nat) (I21 : tI) (H : Heap) (locs : List Loc) (ls : Array Slot) (v20 : Int32), h_G h_so h_fk E A z I21 L0 s s.heap H locs → h_I z I21 → h_F [(803, 999), (802, 999), (804, 999), (805, 999), (2, 0), (2, 1), (2, 2), (2, 3), (808, 999), (807, 999), (856, 999), (8, 10), (811, 999), (812, 999), (8, 9)] z I0 I21 → lv_has ls 4 [(0, .ref a0), (1, .int v10), (2, .int v16), (3, .int v20)] → (1 ≤ v20.toInt ∧ v20.toInt ≤ 8) → h_F [(8, 10), (811, 999), (812, 999), (8, 9)] z I17 I21 → (c_rs z I0 I21 a0 (r_up (fun (c : Int) (s : tS) => if c = v16.toInt then s else r_thr GG CB N v10.toInt v16.toInt c s) (v10.toInt + 1) (v20.toInt - v10.toInt - 1).toNat (r_up (fun (b : Int) (s : tS) => r_up (fun (c : Int) (s : tS) => if c = b then s else r_thr GG CB N v10.toInt b c s) (v10.toInt + 1) (7 - v10.toInt).toNat s) (v10.toInt + 1) (v16.toInt - v10.toInt - 1).toNat (r_up (fun (a : Int) (s : tS) => r_up (fun (b : Int) (s : tS) => r_up (fun (c : Int) (s : tS) => if c = b then s else r_thr GG CB N a b c s) (a + 1) (7 - a).toNat s) (a + 1) (7 - a).toNat s) 0 (v10.toInt).toNat (r_al2 GG CB N (0, [])))))) → (v10.toInt + 1 ≤ v20.toInt) → (8 - v20.toInt) < (n : Int) → W pr_ l ev_ (headSpec wsX7_findBest ({ frames := 6, cells := 0, slots := 0, locals := 384 })).room s m ([.ref a0] : List Value).toArray below meth cd_ H locs 0 0 (MQ below (va_Qi (fun r (I1 : tI) => h_I z I1 ∧ h_F [(803, 999), (802, 999), (804, 999), (805, 999), (2, 0), (2, 1), (2, 2), (2, 3), (808, 999), (807, 999), (856, 999), (8, 10), (811, 999), (812, 999), (8, 9)] z I0 I1 ∧ (((r_all (c_G z I0 (h_ad z a0 0) u_) (c_cb z I0 (h_ad z a0 0)) (I0 (h_ad z a0 0) 2).toInt.toNat).2 = [] ∧ r.toInt = -1 ∧ I1 a0 10 = I0 a0 10 ∧ (∀ k : Nat, I1 (h_ad z a0 11) k = I0 (h_ad z a0 11) k) ∧ ∀ k : Nat, I1 (h_ad z a0 12) k = I0 (h_ad z a0 12) k) ∨ ((r_all (c_G z I0 (h_ad z a0 0) u_) (c_cb z I0 (h_ad z a0 0)) (I0 (h_ad z a0 0) 2).toInt.toNat).2 ≠ [] ∧ r.toInt = (r_all (c_G z I0 (h_ad z a0 0) u_) (c_cb z I0 (h_ad z a0 0)) (I0 (h_ad z a0 0) 2).toInt.toNat).1 ∧ (I1 a0 10).toInt = ((r_all (c_G z I0 (h_ad z a0 0) u_) (c_cb z I0 (h_ad z a0 0)) (I0 (h_ad z a0 0) 2).toInt.toNat).2.length : Int) ∧ ∀ i : Nat, i < (r_all (c_G z I0 (h_ad z a0 0) u_) (c_cb z I0 (h_ad z a0 0)) (I0 (h_ad z a0 0) 2).toInt.toNat).2.length → (I1 (h_ad z a0 11) i).toInt = ((r_all (c_G z I0 (h_ad z a0 0) u_) (c_cb z I0 (h_ad z a0 0)) (I0 (h_ad z a0 0) 2).toInt.toNat).2.getD i (0, 0)).1 ∧ (I1 (h_ad z a0 12) i).toInt = ((((r_all (c_G z I0 (h_ad z a0 0) u_) (c_cb z I0 (h_ad z a0 0)) (I0 (h_ad z a0 0) 2).toInt.toNat).2.getD i (0, 0)).2 : Nat) : Int)))) (fun (I1 : tI) t => h_B E A z I1 L0 t) A) ([.ref a0] : List Value).toArray s 0 0 A) (F0 m 86 ls []) := by
                            intro n
                            induction n with
                            | zero => intro I21 H locs ls v20 g hI hF hl jv20 hL86 hx86_0 hx86_1 hn; exact absurd hn (by omega)
                            | succ n ih86 =>
                              intro I21 H locs ls v20 g hI hF hl jv20 hL86 hx86_0 hx86_1 hn
                              refine lv_iload_n hx hb dX7_findBest_86 rfl (lv_at hl 3 rfl) ?_
                              refine lv_bipush (v := 8) hx hb dX7_findBest_87 (by decide) ?_
                              refine lv_icmp_ge (tgt := 110) hx hb dX7_findBest_89 (by decide) (fun c22 => ?_) (fun c22 => ?_)
                              · have ic22 := (xi_le c22 (by decide) rfl : 8 ≤ v20.toInt)
                                obtain ⟨v23, ev23⟩ : ∃ z : Int32, z = v16 + 1 := ⟨_, rfl⟩
                                have jv23 : v23.toInt = v16.toInt + 1 := xi_add ev23 rfl (by decide) (by omega) (by omega)
                                refine lv_iinc (v := v23) (lv' := [(2, .int v23), (0, .ref a0), (1, .int v10), (3, .int v20)]) hx hb dX7_findBest_110 hl (k := 2) rfl (by rw [ev23]; rfl) (by decide) rfl (fun ls hl => ?_)
                                refine lv_goto (tgt := 76) hx hb dX7_findBest_113 (by decide) ?_
                                exact ih76 I21 _ _ _ v23 g hI hF (lv_sub hl [1, 2, 0] rfl) (by omega) (h_F.call (h_F.call (h_F.rf : h_F [(8, 10), (811, 999), (812, 999), (8, 9)] z I11 I11) hL76 rfl) hL86 rfl) (by rw [show (v23.toInt - v10.toInt - 1).toNat = (v16.toInt - v10.toInt - 1).toNat + 1 by omega, r_up_1, show (v10.toInt + 1 + (((v16.toInt - v10.toInt - 1).toNat : Nat) : Int)) = v16.toInt by omega]; have h9 := hx86_0; rw [show (v20.toInt - v10.toInt - 1).toNat = (7 - v10.toInt).toNat by omega] at h9; exact h9) (by omega) (by omega)
                              · have ic22 := (xi_nle c22 (by decide) rfl : v20.toInt < 8)
                                refine lv_iload_n hx hb dX7_findBest_92 rfl (lv_at hl 3 rfl) ?_
                                refine lv_iload_n hx hb dX7_findBest_93 rfl (lv_at hl 2 rfl) ?_
                                refine lv_icmp_eq (tgt := 104) hx hb dX7_findBest_94 (by decide) (fun c24 => ?_) (fun c24 => ?_)
                                · have ic24 := (xi_eq c24 rfl rfl : v20.toInt = v16.toInt)
                                  obtain ⟨v25, ev25⟩ : ∃ z : Int32, z = v20 + 1 := ⟨_, rfl⟩
                                  have jv25 : v25.toInt = v20.toInt + 1 := xi_add ev25 rfl (by decide) (by omega) (by omega)
                                  refine lv_iinc (v := v25) (lv' := [(3, .int v25), (0, .ref a0), (1, .int v10), (2, .int v16)]) hx hb dX7_findBest_104 hl (k := 3) rfl (by rw [ev25]; rfl) (by decide) rfl (fun ls hl => ?_)
                                  refine lv_goto (tgt := 86) hx hb dX7_findBest_107 (by decide) ?_
                                  exact ih86 I21 _ _ _ v25 g hI hF (lv_sub hl [1, 2, 3, 0] rfl) (by omega) (h_F.call (h_F.rf : h_F [(8, 10), (811, 999), (812, 999), (8, 9)] z I17 I17) hL86 rfl) (by rw [show (v25.toInt - v10.toInt - 1).toNat = (v20.toInt - v10.toInt - 1).toNat + 1 by omega, r_up_1, show (v10.toInt + 1 + (((v20.toInt - v10.toInt - 1).toNat : Nat) : Int)) = v20.toInt by omega]; rw [if_pos (by omega)]; exact hx86_0) (by omega) (by omega)
                                · have ic24 := (xi_ne c24 rfl rfl : v20.toInt ≠ v16.toInt)
                                  refine lv_aload_n hx hb dX7_findBest_97 rfl (lv_at hl 0 rfl) ?_
                                  refine lv_iload_n hx hb dX7_findBest_98 rfl (lv_at hl 1 rfl) ?_
                                  refine lv_iload_n hx hb dX7_findBest_99 rfl (lv_at hl 2 rfl) ?_
                                  refine lv_iload_n hx hb dX7_findBest_100 rfl (lv_at hl 3 rfl) ?_
                                  refine va_callv (va_runV (As := [.int v10, .int v16, .int v20]) (rest := []) ⟨hx, hb, hml, hown, hts⟩ (tX7_tryThreeR l E X A z I21 L0 a0 t_a0 v10 (v10.toInt) rfl (by omega) v16 (v16.toInt) rfl (by omega) v20 (v20.toInt) rfl (by omega) (I0) (N) (CB) (GG) ((r_up (fun (c : Int) (s : tS) => if c = v16.toInt then s else r_thr GG CB N v10.toInt v16.toInt c s) (v10.toInt + 1) (v20.toInt - v10.toInt - 1).toNat (r_up (fun (b : Int) (s : tS) => r_up (fun (c : Int) (s : tS) => if c = b then s else r_thr GG CB N v10.toInt b c s) (v10.toInt + 1) (7 - v10.toInt).toNat s) (v10.toInt + 1) (v16.toInt - v10.toInt - 1).toNat (r_up (fun (a : Int) (s : tS) => r_up (fun (b : Int) (s : tS) => r_up (fun (c : Int) (s : tS) => if c = b then s else r_thr GG CB N a b c s) (a + 1) (7 - a).toNat s) (a + 1) (7 - a).toNat s) 0 (v10.toInt).toNat (r_al2 GG CB N (0, [])))))) (hgr.F hR t_a0 (h_F.call (h_F.call (h_F.call (h_F.call (h_F.wr (h_F.rf : h_F [(8, 10), (811, 999), (812, 999), (8, 9)] z I4 I4) eI6 t_a0 rfl) hL30 rfl) hL66 rfl) hL76 rfl) hL86 rfl) (fun _ => rfl) (fun _ => rfl) (fun _ => rfl) (fun _ => rfl) (fun _ => rfl)) (hx86_0) (⟨by omega, by omega, by omega⟩)) (cwV 3 hts gX7_findBest_X7_tryThree rfl rfl rfl (by decide +kernel) ⟨Nat.le_of_ble_eq_true rfl, Nat.le_of_ble_eq_true rfl⟩) ⟨h_blind _ _ _ _ _ _ _, h_recv g t_a0 (by decide) so_8 (q := (RX7, TX7, 13)) rfl, h_pre _ hE hk hX hA hI hR g⟩ rfl rfl hl.1 rfl (lv_room (Nat.le_of_ble_eq_true rfl)) dX7_findBest_101 ⟨Nat.le_of_ble_eq_true rfl, Nat.le_of_ble_eq_true rfl⟩) g.2.1 (fun q _ h => h) (fun q h => h) (fun I27 t H1 locs ht hvm h26 hB hz1 hk1 hS => ?_)
                                  obtain ⟨hI, fh26, h26⟩ := h26
                                  replace g := h_after g hB ht hS
                                  generalize H1 = H at g
                                  clear hB hk1 hz1 ht hvm hS
                                  have hF := hF.call fh26 rfl
                                  have h26p0 := h26
                                  obtain ⟨v28, ev28⟩ : ∃ z : Int32, z = v20 + 1 := ⟨_, rfl⟩
                                  have jv28 : v28.toInt = v20.toInt + 1 := xi_add ev28 rfl (by decide) (by omega) (by omega)
                                  refine lv_iinc (v := v28) (lv' := [(3, .int v28), (0, .ref a0), (1, .int v10), (2, .int v16)]) hx hb dX7_findBest_104 hl (k := 3) rfl (by rw [ev28]; rfl) (by decide) rfl (fun ls hl => ?_)
                                  refine lv_goto (tgt := 86) hx hb dX7_findBest_107 (by decide) ?_
                                  exact ih86 I27 _ _ _ v28 g hI hF (lv_sub hl [1, 2, 3, 0] rfl) (by omega) (h_F.call (h_F.call (h_F.rf : h_F [(8, 10), (811, 999), (812, 999), (8, 9)] z I17 I17) hL86 rfl) fh26 rfl) (by rw [show (v28.toInt - v10.toInt - 1).toNat = (v20.toInt - v10.toInt - 1).toNat + 1 by omega, r_up_1, show (v10.toInt + 1 + (((v20.toInt - v10.toInt - 1).toNat : Nat) : Int)) = v20.toInt by omega]; rw [if_neg (by omega)]; exact h26p0) (by omega) (by omega)
                          exact loop86_4 _ I17 _ _ _ v15 g hI hF (lv_sub hl [1, 2, 3, 0] rfl) (by omega) (h_F.rf : h_F [(8, 10), (811, 999), (812, 999), (8, 9)] z I17 I17) (by rw [show (v15.toInt - v10.toInt - 1).toNat = 0 by omega, r_up_0]; exact hx76_0) (by omega) (show (8 - v15.toInt) < (((8 - v15.toInt).toNat + 1 : Nat) : Int) by omega)
                    exact loop76_3 _ I11 _ _ _ v15 g hI hF (lv_sub hl [1, 2, 0] rfl) (by omega) (h_F.rf : h_F [(8, 10), (811, 999), (812, 999), (8, 9)] z I11 I11) (by rw [show (v15.toInt - v10.toInt - 1).toNat = 0 by omega, r_up_0]; exact hx66_0) (by omega) (show (8 - v15.toInt) < (((8 - v15.toInt).toNat + 1 : Nat) : Int) by omega)
              have kc29 : (0 : Int32).toInt = 0 := by decide
              exact loop66_2 _ I8 _ _ _ (0) g hI hF (lv_sub hl [1, 0] rfl) ⟨by decide, by decide⟩ (h_F.rf : h_F [(8, 10), (811, 999), (812, 999), (8, 9)] z I8 I8) (by have h9 := hx30_0; rw [show (v7.toInt).toNat = 8 by omega, r_al2_e] at h9; rw [show ((0 : Int32).toInt).toNat = 0 by decide, r_up_0]; exact h9) (show (8 - (0 : Int)) < (((8 - (0 : Int)).toNat + 1 : Nat) : Int) by omega)
            · have ic9 := (xi_nle c9 (by decide) rfl : v7.toInt < 8)
              refine lv_iload_n hx hb dX7_findBest_36 rfl (lv_at hl 1 rfl) ?_
              refine lv_iconst (v := 1) hx hb dX7_findBest_37 (by decide) ?_
              refine lv_iadd hx hb dX7_findBest_38 ?_
              refine lv_topi (fun v30 ev30 => ?_)
              have jv30 : v30.toInt = v7.toInt + 1 := xi_add ev30 rfl (by decide) (by omega) (by omega)
              refine lv_istore_n (lv' := [(2, .int v30), (0, .ref a0), (1, .int v7)]) hx hb dX7_findBest_39 rfl hl (by decide) rfl (fun ls hl => ?_)
              have loop40_5 : ∀ (n : Nat) (I32 : tI) (H : Heap) (locs : List Loc) (ls : Array Slot) (v31 : Int32), h_G h_so h_fk E A z I32 L0 s s.heap H locs → h_I z I32 → h_F [(803, 999), (802, 999), (804, 999), (805, 999), (2, 0), (2, 1), (2, 2), (2, 3), (808, 999), (807, 999), (856, 999), (8, 10), (811, 999), (812, 999), (8, 9)] z I0 I32 → lv_has ls 4 [(0, .ref a0), (1, .int v7), (2, .int v31)] → (1 ≤ v31.toInt ∧ v31.toInt ≤ 8) → h_F [(8, 10), (811, 999), (812, 999), (8, 9)] z I8 I32 → (c_rs z I0 I32 a0 (r_up (fun (b : Int) (s : tS) => r_two GG CB N v7.toInt b s) (v7.toInt + 1) (v31.toInt - v7.toInt - 1).toNat (r_up (fun (a : Int) (s : tS) => r_up (fun (b : Int) (s : tS) => r_two GG CB N a b s) (a + 1) (7 - a).toNat s) 0 (v7.toInt).toNat (0, [])))) → (v7.toInt + 1 ≤ v31.toInt) → (8 - v31.toInt) < (n : Int) → W pr_ l ev_ (headSpec wsX7_findBest ({ frames := 6, cells := 0, slots := 0, locals := 384 })).room s m ([.ref a0] : List Value).toArray below meth cd_ H locs 0 0 (MQ below (va_Qi (fun r (I1 : tI) => h_I z I1 ∧ h_F [(803, 999), (802, 999), (804, 999), (805, 999), (2, 0), (2, 1), (2, 2), (2, 3), (808, 999), (807, 999), (856, 999), (8, 10), (811, 999), (812, 999), (8, 9)] z I0 I1 ∧ (((r_all (c_G z I0 (h_ad z a0 0) u_) (c_cb z I0 (h_ad z a0 0)) (I0 (h_ad z a0 0) 2).toInt.toNat).2 = [] ∧ r.toInt = -1 ∧ I1 a0 10 = I0 a0 10 ∧ (∀ k : Nat, I1 (h_ad z a0 11) k = I0 (h_ad z a0 11) k) ∧ ∀ k : Nat, I1 (h_ad z a0 12) k = I0 (h_ad z a0 12) k) ∨ ((r_all (c_G z I0 (h_ad z a0 0) u_) (c_cb z I0 (h_ad z a0 0)) (I0 (h_ad z a0 0) 2).toInt.toNat).2 ≠ [] ∧ r.toInt = (r_all (c_G z I0 (h_ad z a0 0) u_) (c_cb z I0 (h_ad z a0 0)) (I0 (h_ad z a0 0) 2).toInt.toNat).1 ∧ (I1 a0 10).toInt = ((r_all (c_G z I0 (h_ad z a0 0) u_) (c_cb z I0 (h_ad z a0 0)) (I0 (h_ad z a0 0) 2).toInt.toNat).2.length : Int) ∧ ∀ i : Nat, i < (r_all (c_G z I0 (h_ad z a0 0) u_) (c_cb z I0 (h_ad z a0 0)) (I0 (h_ad z a0 0) 2).toInt.toNat).2.length → (I1 (h_ad z a0 11) i).toInt = ((r_all (c_G z I0 (h_ad z a0 0) u_) (c_cb z I0 (h_ad z a0 0)) (I0 (h_ad z a0 0) 2).toInt.toNat).2.getD i (0, 0)).1 ∧ (I1 (h_ad z a0 12) i).toInt = ((((r_all (c_G z I0 (h_ad z a0 0) u_) (c_cb z I0 (h_ad z a0 0)) (I0 (h_ad z a0 0) 2).toInt.toNat).2.getD i (0, 0)).2 : Nat) : Int)))) (fun (I1 : tI) t => h_B E A z I1 L0 t) A) ([.ref a0] : List Value).toArray s 0 0 A) (F0 m 40 ls []) := by
                intro n
                induction n with
                | zero => intro I32 H locs ls v31 g hI hF hl jv31 hL40 hx40_0 hx40_1 hn; exact absurd hn (by omega)
                | succ n ih40 =>
                  intro I32 H locs ls v31 g hI hF hl jv31 hL40 hx40_0 hx40_1 hn
                  refine lv_iload_n hx hb dX7_findBest_40 rfl (lv_at hl 2 rfl) ?_
                  refine lv_bipush (v := 8) hx hb dX7_findBest_41 (by decide) ?_
                  refine lv_icmp_ge (tgt := 58) hx hb dX7_findBest_43 (by decide) (fun c33 => ?_) (fun c33 => ?_)
                  · have ic33 := (xi_le c33 (by decide) rfl : 8 ≤ v31.toInt)
                    obtain ⟨v34, ev34⟩ : ∃ z : Int32, z = v7 + 1 := ⟨_, rfl⟩
                    have jv34 : v34.toInt = v7.toInt + 1 := xi_add ev34 rfl (by decide) (by omega) (by omega)
                    refine lv_iinc (v := v34) (lv' := [(1, .int v34), (0, .ref a0), (2, .int v31)]) hx hb dX7_findBest_58 hl (k := 1) rfl (by rw [ev34]; rfl) (by decide) rfl (fun ls hl => ?_)
                    refine lv_goto (tgt := 30) hx hb dX7_findBest_61 (by decide) ?_
                    exact ih30 I32 _ _ _ v34 g hI hF (lv_sub hl [1, 0] rfl) (by omega) (h_F.call (h_F.call (h_F.rf : h_F [(8, 10), (811, 999), (812, 999), (8, 9)] z I6 I6) hL30 rfl) hL40 rfl) (by rw [show (v34.toInt).toNat = v7.toInt.toNat + 1 by omega, r_up_1, show (0 + ((v7.toInt.toNat : Nat) : Int)) = v7.toInt by omega]; have h9 := hx40_0; rw [show (v31.toInt - v7.toInt - 1).toNat = (7 - v7.toInt).toNat by omega] at h9; exact h9) (by omega)
                  · have ic33 := (xi_nle c33 (by decide) rfl : v31.toInt < 8)
                    refine lv_aload_n hx hb dX7_findBest_46 rfl (lv_at hl 0 rfl) ?_
                    refine lv_iload_n hx hb dX7_findBest_47 rfl (lv_at hl 1 rfl) ?_
                    refine lv_iload_n hx hb dX7_findBest_48 rfl (lv_at hl 2 rfl) ?_
                    refine va_callv (va_runV (As := [.int v7, .int v31]) (rest := []) ⟨hx, hb, hml, hown, hts⟩ (tX7_tryTwoR l E X A z I32 L0 a0 t_a0 v7 (v7.toInt) rfl (by omega) v31 (v31.toInt) rfl (by omega) (I0) (N) (CB) (GG) ((r_up (fun (b : Int) (s : tS) => r_two GG CB N v7.toInt b s) (v7.toInt + 1) (v31.toInt - v7.toInt - 1).toNat (r_up (fun (a : Int) (s : tS) => r_up (fun (b : Int) (s : tS) => r_two GG CB N a b s) (a + 1) (7 - a).toNat s) 0 (v7.toInt).toNat (0, [])))) (hgr.F hR t_a0 (h_F.call (h_F.call (h_F.wr (h_F.rf : h_F [(8, 10), (811, 999), (812, 999), (8, 9)] z I4 I4) eI6 t_a0 rfl) hL30 rfl) hL40 rfl) (fun _ => rfl) (fun _ => rfl) (fun _ => rfl) (fun _ => rfl) (fun _ => rfl)) (hx40_0) (by omega)) (cwV 2 hts gX7_findBest_X7_tryTwo rfl rfl rfl (by decide +kernel) ⟨Nat.le_of_ble_eq_true rfl, Nat.le_of_ble_eq_true rfl⟩) ⟨h_blind _ _ _ _ _ _ _, h_recv g t_a0 (by decide) so_8 (q := (RX7, TX7, 13)) rfl, h_pre _ hE hk hX hA hI hR g⟩ rfl rfl hl.1 rfl (lv_room (Nat.le_of_ble_eq_true rfl)) dX7_findBest_49 ⟨Nat.le_of_ble_eq_true rfl, Nat.le_of_ble_eq_true rfl⟩) g.2.1 (fun q _ h => h) (fun q h => h) (fun I36 t H1 locs ht hvm h35 hB hz1 hk1 hS => ?_)
                    obtain ⟨hI, fh35, h35⟩ := h35
                    replace g := h_after g hB ht hS
                    generalize H1 = H at g
                    clear hB hk1 hz1 ht hvm hS
                    have hF := hF.call fh35 rfl
                    have h35p0 := h35
                    obtain ⟨v37, ev37⟩ : ∃ z : Int32, z = v31 + 1 := ⟨_, rfl⟩
                    have jv37 : v37.toInt = v31.toInt + 1 := xi_add ev37 rfl (by decide) (by omega) (by omega)
                    refine lv_iinc (v := v37) (lv' := [(2, .int v37), (0, .ref a0), (1, .int v7)]) hx hb dX7_findBest_52 hl (k := 2) rfl (by rw [ev37]; rfl) (by decide) rfl (fun ls hl => ?_)
                    refine lv_goto (tgt := 40) hx hb dX7_findBest_55 (by decide) ?_
                    exact ih40 I36 _ _ _ v37 g hI hF (lv_sub hl [1, 2, 0] rfl) (by omega) (h_F.call (h_F.call (h_F.rf : h_F [(8, 10), (811, 999), (812, 999), (8, 9)] z I8 I8) hL40 rfl) fh35 rfl) (by rw [show (v37.toInt - v7.toInt - 1).toNat = (v31.toInt - v7.toInt - 1).toNat + 1 by omega, r_up_1, show (v7.toInt + 1 + (((v31.toInt - v7.toInt - 1).toNat : Nat) : Int)) = v31.toInt by omega]; exact h35p0) (by omega) (by omega)
              exact loop40_5 _ I8 _ _ _ v30 g hI hF (lv_sub hl [1, 2, 0] rfl) (by omega) (h_F.rf : h_F [(8, 10), (811, 999), (812, 999), (8, 9)] z I8 I8) (by rw [show (v30.toInt - v7.toInt - 1).toNat = 0 by omega, r_up_0]; exact hx30_0) (by omega) (show (8 - v30.toInt) < (((8 - v30.toInt).toNat + 1 : Nat) : Int) by omega)
        have kc38 : (0 : Int32).toInt = 0 := by decide
        exact loop30_1 _ I6 _ _ _ (0) g hI hF (lv_sub hl [1, 0] rfl) ⟨by decide, by decide⟩ (h_F.rf : h_F [(8, 10), (811, 999), (812, 999), (8, 9)] z I6 I6) (by rw [show ((0 : Int32).toInt).toNat = 0 by decide, r_up_0]; exact hs00) (show (8 - (0 : Int)) < (((8 - (0 : Int)).toNat + 1 : Nat) : Int) by omega)
      · have ic5 := (xi_nle c5 (by decide) rfl : v3.toInt < 8)
        refine lv_aload_n hx hb dX7_findBest_12 rfl (lv_at hl 0 rfl) ?_
        refine lv_iload_n hx hb dX7_findBest_13 rfl (lv_at hl 1 rfl) ?_
        refine va_callv (va_runV (As := [.int v3]) (rest := []) ⟨hx, hb, hml, hown, hts⟩ (tX7_findGainsR l E X A z I4 L0 a0 t_a0 v3 (v3.toInt) rfl (by omega) (u_) (by rw [abk, alb, aun, atx, show I4 bk 3 = f0_3 from (h_F.at hL6 tbk rfl).trans ((h_F.at fh1 tbk rfl).trans (ef0_3.symm))]; exact h_lwF hR hF (fun _ => rfl) (fun _ => rfl) (fun _ => rfl) ttx tun hcl) (hob) (by rw [abk, apl, show I4 bk 2 = f0_2 from (h_F.at hL6 tbk rfl).trans ((h_F.at fh1 tbk rfl).trans (ef0_2.symm))]; exact hnn) (hU) (CB) (PP) (QQ) (GG) (by rw [abk, show I4 bk 2 = f0_2 from (h_F.at hL6 tbk rfl).trans ((h_F.at fh1 tbk rfl).trans (ef0_2.symm)), ← eN]; obtain ⟨q1, q2, q3, q4⟩ := c_all_F hR hF tbk apl tpl (fun _ => rfl) (fun _ => rfl) (fun _ => rfl) (fun _ => rfl) (n := N) (by rw [qf0_2]; exact eN.symm) (by rw [qf0_2]; omega) (by omega) (fun p hp => hnn p (by omega)) u_; exact ⟨fun p hp => (congrFun eCB p).trans (q1 p hp).symm, fun p hp => (congrFun ePP p).trans (q2 p hp).symm, fun p hp => (congrFun eQQ p).trans (q3 p hp).symm, fun c o i c0 c7 ho hi => (congrFun (congrFun (congrFun eGG c) o) i).trans (q4 c o i c0 c7 ho hi).symm⟩) (by rw [abk, show I4 bk 2 = f0_2 from (h_F.at hL6 tbk rfl).trans ((h_F.at fh1 tbk rfl).trans (ef0_2.symm)), ← eN, ast, aln, apa, aco]; exact ⟨hx6_0, hx6_1⟩) (by rw [abk, show I4 bk 2 = f0_2 from (h_F.at hL6 tbk rfl).trans ((h_F.at fh1 tbk rfl).trans (ef0_2.symm)), ← eN]; intro c p hc hp; rw [c_w_F hR hF tbk apl tpl (fun _ => rfl) (by omega) (hnn p (by omega))]; exact hwb c p hc hp) (by rw [abk, show I4 bk 2 = f0_2 from (h_F.at hL6 tbk rfl).trans ((h_F.at fh1 tbk rfl).trans (ef0_2.symm)), ← eN]; exact hpy)) (cwV 1 hts gX7_findBest_X7_findGains rfl rfl rfl (by decide +kernel) ⟨Nat.le_of_ble_eq_true rfl, Nat.le_of_ble_eq_true rfl⟩) ⟨h_blind _ _ _ _ _ _ _, h_recv g t_a0 (by decide) so_8 (q := (RX7, TX7, 13)) rfl, h_pre _ hE hk hX hA hI hR g⟩ rfl rfl hl.1 rfl (lv_room (Nat.le_of_ble_eq_true rfl)) dX7_findBest_14 ⟨Nat.le_of_ble_eq_true rfl, Nat.le_of_ble_eq_true rfl⟩) g.2.1 (fun q _ h => h) (fun q h => h) (fun I40 t H1 locs ht hvm h39 hB hz1 hk1 hS => ?_)
        obtain ⟨hI, fh39, h39⟩ := h39
        replace g := h_after g hB ht hS
        generalize H1 = H at g
        clear hB hk1 hz1 ht hvm hS
        have hF := hF.call fh39 rfl
        have h39p0 := h39
        rw [abk, show I4 bk 2 = f0_2 from (h_F.at hL6 tbk rfl).trans ((h_F.at fh1 tbk rfl).trans (ef0_2.symm)), ← eN, agn, apt, act] at h39p0
        obtain ⟨v41, ev41⟩ : ∃ z : Int32, z = v3 + 1 := ⟨_, rfl⟩
        have jv41 : v41.toInt = v3.toInt + 1 := xi_add ev41 rfl (by decide) (by omega) (by omega)
        refine lv_iinc (v := v41) (lv' := [(1, .int v41), (0, .ref a0)]) hx hb dX7_findBest_17 hl (k := 1) rfl (by rw [ev41]; rfl) (by decide) rfl (fun ls hl => ?_)
        refine lv_goto (tgt := 6) hx hb dX7_findBest_20 (by decide) ?_
        exact ih6 I40 _ _ _ v41 g hI hF (lv_sub hl [1, 0] rfl) (by omega) (h_F.call (h_F.call (h_F.rf : h_F [(2, 0), (2, 1), (2, 2), (2, 3), (808, 999), (807, 999), (856, 999)] z I2 I2) hL6 rfl) fh39 rfl) (hx6_0.c (fun k => h_F.at fh39 tst rfl)) (hx6_1.c (fun k => h_F.at fh39 tln rfl) (fun k => h_F.at fh39 tpa rfl) (fun k => h_F.at fh39 tco rfl)) (fun c p hc hp hcp => by have z9 : ((v3.toInt.toNat : Nat) : Int) = v3.toInt := (by omega); by_cases e : c = v3.toInt.toNat; (rw [e, z9]; exact h39p0.1 p hp (by omega)); (have b1 := hx6_2 c p (by omega) hp hcp; have b2 := h39p0.2.2.1 p hp (by omega); have b3 := h39p0.2.2.2 c e; exact ⟨b1.1.c (fun q => b2.2 q) b2.1, by rw [b2.1, b3]; exact b1.2⟩)) (fun c hc => by by_cases e : c = v3.toInt.toNat; (rw [e]; exact h39p0.2.1); (have b3 := h39p0.2.2.2 c e; rw [b3]; exact hx6_3 c (by omega))) (by omega)
  have kc42 : (0 : Int32).toInt = 0 := by decide
  exact loop6_0 _ I2 _ _ _ (0) g hI hF (lv_sub hl [1, 0] rfl) ⟨by decide, by decide⟩ (h_F.rf : h_F [(2, 0), (2, 1), (2, 2), (2, 3), (808, 999), (807, 999), (856, 999)] z I2 I2) (hst0) (hlq0) (fun c p hc _ _ => absurd hc (Nat.not_lt_zero c)) (fun c hc => absurd hc (Nat.not_lt_zero c)) (show (8 - (0 : Int)) < (((8 - (0 : Int)).toNat + 1 : Nat) : Int) by omega)

