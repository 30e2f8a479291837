theorem up3_comm {m : Mem} {k i k' i' : Nat} {j z j' z' : Int} (h : k ≠ k') : up3 (up3 m k i j z) k' i' j' z' = up3 (up3 m k' i' j' z') k i j z := by
  funext a b c
  simp only [up3_apply]
  by_cases h1 : a = k' ∧ b = i' ∧ c = j'
  · rw [if_pos h1, if_neg (fun q => h (q.1.symm.trans h1.1)), if_pos h1]
  · rw [if_neg h1, if_neg h1]
theorem carry_18 {m : Mem} {s : Nat} {c x l v : Int} : carryC (up3 m 18 s l v) s c x = up3 (carryC m s c x) 18 s l v := by
  unfold carryC
  show up3 (up3 (up3 m 18 s l v) 8 s c (m 8 s c + x)) 9 s c (m 9 s c + x * m 6 s c / 1000) = _
  rw [up3_comm (k := 18) (k' := 8) (by decide), up3_comm (k := 18) (k' := 9) (by decide)]
theorem loseC_18 {m : Mem} {p s : Nat} {q l v : Int} : loseC (up3 m 18 s l v) p s q = up3 (loseC m p s q) 18 s l v := by
  have e : loseC (up3 m 18 s l v) p s q = if 0 < m 3 s q - roomC m p s q then up3 (up3 (up3 m 18 s l v) 3 s q (m 3 s q - (m 3 s q - roomC m p s q))) 0 s 3 (m 0 s 3 + (m 3 s q - roomC m p s q)) else up3 m 18 s l v := rfl
  rw [e]
  unfold loseC
  split
  · rw [up3_comm (k := 18) (k' := 3) (by decide), up3_comm (k := 18) (k' := 0) (by decide)]
  · rfl
theorem getC_18 {m : Mem} {p s : Nat} {q x l v : Int} : getC (up3 m 18 s l v) p s q x = up3 (getC m p s q x) 18 s l v := by
  have e : getC (up3 m 18 s l v) p s q x = loseC (up3 (up3 m 18 s l v) 3 s q (m 3 s q + x)) p s q := rfl
  rw [e, up3_comm (k := 18) (k' := 3) (by decide), loseC_18]
  rfl
theorem NB_k {m m' : Mem} {s : Nat} (h : NB m s) (e1 : m' 1 = m 1) (e2 : m' 2 = m 2) : NB m' s := by unfold NB; rw [e1, e2]; exact h
/-- facts of a loan and its row -/
theorem R_cb {m : Mem} {p s : Nat} {N : Int → Int} {l : Int} (hP : BP m p) (hB : BS m p s) (hR : RP m p N) (hS : RS m p s N) (h0 : 0 ≤ l) (h1 : l < m 2 s 0) :
    N (318 + 7 * l + 0) = m 15 s l ∧ N (270 + 6 * m 15 s l + 0) = m 28 p (m 15 s l) ∧ N (270 + 6 * m 15 s l + 1) = m 29 p (m 15 s l) ∧ N (270 + 6 * m 15 s l + 4) = m 32 p (m 15 s l) ∧ cbN N l = cbC m p s l := by
  have hl := hS.2.2.2.2.2.2 l h0 h1
  have hb := hB.2.2.2.2.1.2 l h0 h1
  have hc := BP_c hP hb.1.1 hb.1.2
  have rc := hR.2.2.2.2.2.1 (m 15 s l) hb.1.1 hb.1.2
  refine ⟨hl.1, rc.1, rc.2.1, rc.2.2.2.2, ?_⟩
  unfold cbN cbC
  rw [hl.1, rc.1, rc.2.1, hR.2.2.2.2.1 _ _ hc.1.1 hc.1.2 hc.2.1.1 hc.2.1.2]
/-- something is sent: give, carry, get, side by side -/
theorem R_sends {m : Mem} {p s : Nat} {N : Int → Int} {c a b x : Int} (hP : BP m p) (hB : BS m p s) (hN : SN m p s) (hR : RP m p N) (hS : RS m p s N) (h8 : R8 m p s N) (c0 : 0 ≤ c) (c1 : c < m 22 p 5) (a0 : 0 ≤ a) (a1 : a < m 22 p 2) (b0 : 0 ≤ b) (b1 : b < m 22 p 2) (hx : 0 ≤ x ∧ x ≤ m 3 s a) (hx2 : x ≤ m 7 s c - m 8 s c) :
    (RP (getC (carryC (giveC m p s a x) s c x) p s b (x - x * m 6 s c / 1000)) p (sendsN N c a b x) ∧ RS (getC (carryC (giveC m p s a x) s c x) p s b (x - x * m 6 s c / 1000)) p s (sendsN N c a b x) ∧ R8 (getC (carryC (giveC m p s a x) s c x) p s b (x - x * m 6 s c / 1000)) p s (sendsN N c a b x)) ∧ BP (getC (carryC (giveC m p s a x) s c x) p s b (x - x * m 6 s c / 1000)) p := by
  have n8 := hP.2.2.1
  have n12 := hP.2.2.2.2.2.1
  have hcb := hB.2.2.1 c c0 c1
  have hc6 := hcb.1
  have e6 : N (86 + 6 * c + 2) = m 6 s c := (hS.2.2.2.1 c c0 c1).1
  have B1 := BS_give hP hB a0 a1 hx
  have U1 := R_give (x := x) hP hB hR hS a0 a1
  have U8 : R8 (giveC m p s a x) p s (giveN N a x) := R8_of hP h8 (giveC_k (by decide) (by decide) (by decide)) (giveC_k (by decide) (by decide) (by decide)) (fun c' c2 c3 => giveN_lo a0 (by omega) (by omega) (by omega))
  have g6 : giveC m p s a x 6 s c = m 6 s c := by rw [giveC_k (by decide) (by decide) (by decide)]
  have g8 : giveC m p s a x 8 s c = m 8 s c := by rw [giveC_k (by decide) (by decide) (by decide)]
  have g22 : giveC m p s a x 22 = m 22 := giveC_k (by decide) (by decide) (by decide)
  have U2 := R_carry (x := x) (y := x * m 6 s c / 1000) B1.1 B1.2 U1.1 U1.2 U8 c0 (by rw [g22]; exact c1) (by rw [g6])
  have P2 : BP (carryC (giveC m p s a x) s c x) p := B1.1
  have B2 : BS (carryC (giveC m p s a x) s c x) p s := BS_up8 (m := giveC m p s a x) (by rw [g8]; have := hcb.2.1; have := hcb.2.2; omega) B1.2
  have hlo : x * m 6 s c ≤ x * 900 := Int.mul_le_mul_of_nonneg_left hc6.2 hx.1
  have g22' : carryC (giveC m p s a x) s c x 22 = m 22 := by rw [carry_k (by decide) (by decide), g22]
  have B3 := BS_get (x := x - x * m 6 s c / 1000) P2 B2 b0 (by rw [g22']; exact b1) (by omega)
  have U3 := R_get (x := x - x * m 6 s c / 1000) P2 B2 U2.1 U2.2.1 b0 (by rw [g22']; exact b1)
  unfold sendsN
  rw [e6]
  exact ⟨⟨U3.1, U3.2, R8_of P2 U2.2.2 (getC_k (by decide) (by decide)) (getC_k (by decide) (by decide)) (fun c' c2 c3 => getN_lo b0 (by omega) (by omega))⟩, B3.1⟩
theorem R_so {m : Mem} {p s : Nat} {N : Int → Int} {l : Int} (hP : BP m p) (hB : BS m p s) (hN : SN m p s) (hR : RP m p N) (hS : RS m p s N) (h8 : R8 m p s N) (h0 : 0 ≤ l) (h1 : l < m 2 s 0) :
    RP (soC m p s l) p (snN N l) ∧ RS (soC m p s l) p s (snN N l) ∧ R8 (soC m p s l) p s (snN N l) := by
  have hb := hB.2.2.2.2.1.2 l h0 h1
  have hc := BP_c hP hb.1.1 hb.1.2
  have ha := soA_b hP hB hN h0 h1
  have rc := R_cb hP hB hR hS h0 h1
  have hl := hS.2.2.2.2.2.2 l h0 h1
  have n8 := hP.2.2.1
  have n12 := hP.2.2.2.2.2.1
  have n16b := hB.2.2.2.2.1.1
  have c0 : 0 ≤ cbC m p s l ∧ cbC m p s l < m 22 p 5 := ⟨hc.2.2.2.2.2.2.1, hc.2.2.2.2.2.2.2⟩
  have r4 := hS.2.2.2.1 _ c0.1 c0.2
  have r8 := h8 _ c0.1 c0.2
  have rq := hS.2.1 _ hc.1.1 hc.1.2
  have hn := hN _ c0.1 c0.2
  have eA : snA N l = soA m p s l := by
    unfold snA soA aboveN freeN
    rw [rc.2.2.2.2, rc.1, rc.2.1, hl.2.1, hl.2.2.1, rq.1, rq.2.2, r4.2.1, r8]
    omega
  have U := R_sends (x := soA m p s l) hP hB hN hR hS h8 c0.1 c0.2 hc.1.1 hc.1.2 hc.2.1.1 hc.2.1.2 ha.1 ha.2.2
  have f := so_facts hP hB hN h0 h1
  have e1 : sn1 N l = sendsN N (cbC m p s l) (m 28 p (m 15 s l)) (m 29 p (m 15 s l)) (soA m p s l) := by unfold sn1; rw [eA, rc.2.2.2.2, rc.1, rc.2.1, rc.2.2.1]
  have e6 : so2 m p s l 6 s (cbC m p s l) = m 6 s (cbC m p s l) := by rw [so2_k (by decide) (by decide) (by decide) (by decide)]
  have w := R_wear hP hB hR hS (soA m p s l) hc.1.1 hc.1.2
  have wb := wearC_b (BS_pf hP hB hc.1.1 hc.1.2) (BP_qf hP hc.1.1 hc.1.2) (x := soA m p s l) ⟨ha.1.1, by have := (BS_pf hP hB hc.1.1 hc.1.2).2.2.2.2; omega⟩
  have e18 : so1 m p s l 18 s l = m 18 s l := by rw [so1_k (by decide) (by decide) (by decide)]
  have hv : min 100000000 (so1 m p s l 18 s l + wearC m p s (m 28 p (m 15 s l)) (soA m p s l)) = min 100000000 (N (318 + 7 * l + 3) + pfN N (N (270 + 6 * N (318 + 7 * l + 0) + 0)) (snA N l)) := by
    unfold pfN
    rw [eA, rc.1, rc.2.1, w, e18, hl.2.2.2.1]
    have := hb.2.2.2.1
    omega
  have e4 : so4 m p s l = up3 (getC (carryC (giveC m p s (m 28 p (m 15 s l)) (soA m p s l)) s (cbC m p s l) (soA m p s l)) p s (m 29 p (m 15 s l)) (soA m p s l - soA m p s l * m 6 s (cbC m p s l) / 1000)) 18 s l (min 100000000 (so1 m p s l 18 s l + wearC m p s (m 28 p (m 15 s l)) (soA m p s l))) := by
    unfold so4
    rw [e6]
    unfold so3 so2
    rw [carry_18, getC_18]
    rfl
  rw [← e1] at U
  have kk : ∀ k, k = 1 ∨ k = 2 → getC (carryC (giveC m p s (m 28 p (m 15 s l)) (soA m p s l)) s (cbC m p s l) (soA m p s l)) p s (m 29 p (m 15 s l)) (soA m p s l - soA m p s l * m 6 s (cbC m p s l) / 1000) k = m k := fun k hk => by
    rw [getC_k (by omega) (by omega), carry_k (by omega) (by omega), giveC_k (by omega) (by omega) (by omega)]
  have V1 := R_loan18 (l := l) hv.symm U.2 (NB_k (BS_nb hB) (kk 1 (Or.inl rfl)) (kk 2 (Or.inr rfl))) U.1.1 U.1.2.1 h0 (by rw [kk 2 (Or.inr rfl)]; exact h1)
  rw [← e4] at V1
  have so4k : ∀ k, k = 1 ∨ k = 2 ∨ k = 16 ∨ k = 17 → so4 m p s l k = m k := fun k hk => so4_k (by omega) (by omega) (by omega) (by omega) (by omega) (by omega)
  have V1' : RP (so4 m p s l) p (sn2 N l) ∧ RS (so4 m p s l) p s (sn2 N l) := V1
  have e17 : sn2 N l (318 + 7 * l + 2) = so4 m p s l 17 s l := (V1'.2.2.2.2.2.2.2 l h0 (by rw [so4k 2 (by omega)]; exact h1)).2.2.1
  have V2 := R_loan17 (l := l) (z := so4 m p s l 17 s l + soA m p s l) (z' := sn2 N l (318 + 7 * l + 2) + snA N l) (by rw [e17, eA]) f.2.2.1.1 (BS_nb f.2.2.1.2) V1'.1 V1'.2 h0 (by rw [so4k 2 (by omega)]; exact h1)
  have V2' : RP (so5 m p s l) p (sn3 N l) ∧ RS (so5 m p s l) p s (sn3 N l) := V2
  have P5 : BP (so5 m p s l) p := f.2.2.1.1
  have N5 : NB (so5 m p s l) s := (show NB (so4 m p s l) s from BS_nb f.2.2.1.2)
  have g16 : so5 m p s l 16 s l = m 16 s l := by
    show so4 m p s l 16 s l = _
    rw [so4k 16 (by omega)]
  have g17 : so5 m p s l 17 s l = m 17 s l + soA m p s l := by unfold so5; rw [up3_at, so4k 17 (by omega)]
  have c17 := hl.2.2.1
  have c16 := hl.2.1
  have R8a : R8 (so4 m p s l) p s (sn2 N l) := by
    rw [e4]
    exact R8_of U.2 U.1.2.2 rfl rfl (fun c' c2 c3 => by unfold sn2; rw [upN_off (by omega)])
  have R8b : R8 (so5 m p s l) p s (sn3 N l) := R8_of f.2.2.1.1 R8a rfl rfl (fun c' c2 c3 => by unfold sn3; rw [upN_off (by omega)])
  unfold soC snN
  rw [g16, g17, eA, c16, c17]
  by_cases d : m 16 s l ≤ m 17 s l + soA m p s l
  · rw [if_pos d, if_pos (by omega)]
    have V3 := R_loan20 (l := l) (z := 1) (z' := 1) rfl P5 N5 V2'.1 V2'.2 h0 (by show l < so4 m p s l 2 s 0; rw [so4k 2 (by omega)]; exact h1)
    exact ⟨V3.1, V3.2, R8_of P5 R8b rfl rfl (fun c' c2 c3 => by rw [upN_off (by omega)])⟩
  · rw [if_neg d, if_neg (by omega)]
    exact ⟨V2'.1, V2'.2, R8b⟩
theorem giveN_0 {N : Int → Int} {q : Int} (hq : 0 ≤ q) (h : N (30 + 7 * q + 1) ≤ roomN N q) (hp : N (30 + 7 * q + 2) ≤ 1000000000) : giveN N q 0 = N := by
  have e : give1 N q 0 = N := by
    unfold give1
    rw [show min 1000000000 (N (30 + 7 * q + 2) + 0 * weightN N q) = N (30 + 7 * q + 2) by rw [Int.zero_mul]; omega, upN_same]
  funext j
  rw [giveN_ap hq, e]
  split
  · rename_i z; rw [z, Int.zero_mul]; omega
  · split
    · rename_i z; rw [z]; omega
    · split
      · rename_i z; rw [z]; omega
      · rfl
theorem carryN_0 {N : Int → Int} {c : Int} (hc : 0 ≤ c) : carryN N c 0 0 = N := by
  funext j
  rw [carryN_ap hc]
  split
  · rename_i z; rw [z]; omega
  · split
    · rename_i z; rw [z]; omega
    · split
      · rename_i z; rw [z]; omega
      · rfl
theorem R_sb {m : Mem} {p s : Nat} {N : Int → Int} {l : Int} (hP : BP m p) (hB : BS m p s) (hN : SN m p s) (hR : RP m p N) (hS : RS m p s N) (h8 : R8 m p s N) (h0 : 0 ≤ l) (h1 : l < m 2 s 0) (h2 : m 20 s l = 2) :
    (RP (sb4 m p s l) p (gb3 N l) ∧ RS (sb4 m p s l) p s (gb3 N l)) ∧ (gbA N l = sbA m p s l) ∧ RP (sbC m p s l) p (gbN N l) ∧ RS (sbC m p s l) p s (gbN N l) ∧ R8 (sbC m p s l) p s (gbN N l) := by
  have hb := hB.2.2.2.2.1.2 l h0 h1
  have hc := BP_c hP hb.1.1 hb.1.2
  have ha := sbA_b hP hB hN h0 h1
  have rc := R_cb hP hB hR hS h0 h1
  have hl := hS.2.2.2.2.2.2 l h0 h1
  have n8 := hP.2.2.1
  have n12 := hP.2.2.2.2.2.1
  have n16b := hB.2.2.2.2.1.1
  have c0 : 0 ≤ cbC m p s l ∧ cbC m p s l < m 22 p 5 := ⟨hc.2.2.2.2.2.2.1, hc.2.2.2.2.2.2.2⟩
  have r4 := hS.2.2.2.1 _ c0.1 c0.2
  have r8 := h8 _ c0.1 c0.2
  have rq := hS.2.1 _ hc.2.1.1 hc.2.1.2
  have hn := hN _ c0.1 c0.2
  have eo := R_owed hR hS h0 h1
  have ob := owedC_b (BS_lf hP hB h0 h1)
  have eA : gbA N l = sbA m p s l := by
    unfold gbA sbA freeN
    rw [rc.2.2.2.2, rc.1, rc.2.2.1, rq.1, r4.1, r4.2.1, r8, eo]
    omega
  have U := R_sends (x := sbA m p s l) hP hB hN hR hS h8 c0.1 c0.2 hc.2.1.1 hc.2.1.2 hc.1.1 hc.1.2 ha.1 ha.2.1
  have f := sb_facts hP hB hN h0 h1 h2
  have e1 : gb1 N l = sendsN N (cbC m p s l) (m 29 p (m 15 s l)) (m 28 p (m 15 s l)) (sbA m p s l) := by unfold gb1; rw [eA, rc.2.2.2.2, rc.1, rc.2.1, rc.2.2.1]
  have e6 : sb1 m p s l 6 s (cbC m p s l) = m 6 s (cbC m p s l) := by rw [sb1_k (by decide) (by decide) (by decide)]
  have eR : gbR N l = sbR m p s l := by unfold gbR sbR; rw [eA, rc.2.2.2.2, r4.1, e6]
  have e3 : sb3 m p s l = getC (carryC (giveC m p s (m 29 p (m 15 s l)) (sbA m p s l)) s (cbC m p s l) (sbA m p s l)) p s (m 28 p (m 15 s l)) (sbA m p s l - sbA m p s l * m 6 s (cbC m p s l) / 1000) := by
    unfold sb3 sbR
    rw [e6]
    rfl
  rw [← e1, ← e3] at U
  have sk : ∀ k, k = 1 ∨ k = 2 ∨ k = 15 → sb3 m p s l k = m k := fun k hk => sb3_k (by omega) (by omega) (by omega) (by omega) (by omega)
  have h1' : l < sb3 m p s l 2 s 0 := by rw [sk 2 (by omega)]; exact h1
  have e19 : gb1 N l (318 + 7 * l + 4) = sb3 m p s l 19 s l := (U.1.2.1.2.2.2.2.2.2 l h0 h1').2.2.2.2.1
  have V1 := R_loan19 (l := l) (z := sb3 m p s l 19 s l + sbR m p s l) (z' := gb1 N l (318 + 7 * l + 4) + gbR N l) (by rw [e19, eR]) U.2 (NB_k (BS_nb hB) (sk 1 (Or.inl rfl)) (sk 2 (by omega))) U.1.1 U.1.2.1 h0 h1'
  have V1' : RP (sb4 m p s l) p (gb2 N l) ∧ RS (sb4 m p s l) p s (gb2 N l) := V1
  have R8a : R8 (sb4 m p s l) p s (gb2 N l) := R8_of U.2 U.1.2.2 rfl rfl (fun c' c2 c3 => by unfold gb2; rw [upN_off (by omega)])
  have eg : gb3 N l = gb2 N l := by
    unfold gb3
    by_cases d : 0 < owedN N l
    · rw [if_pos d]
    · rw [if_neg d]
      have z := ha.2.2 (by omega)
      have q3 := hB.2.1 _ hc.2.1.1 hc.2.1.2
      have q4 := hB.2.1 _ hc.1.1 hc.1.2
      have rr := R_room hR hS hc.2.1.1 hc.2.1.2
      have rr2 := R_room hR hS hc.1.1 hc.1.2
      have rq2 := hS.2.1 _ hc.1.1 hc.1.2
      have s0 : gb1 N l = N := by
        rw [e1, z]
        unfold sendsN
        rw [Int.zero_mul, giveN_0 hc.2.1.1 (by rw [rq.1, rr]; exact q3.1.2) (by rw [rq.2.1]; exact q3.2.1.2)]
        rw [show (0 : Int) / 1000 = 0 from rfl, carryN_0 c0.1, show (0 : Int) - 0 = 0 from rfl, getN_0 hc.1.1 (by rw [rq2.1, rr2]; exact q4.1.2)]
      have r0 : gbR N l = 0 := by unfold gbR; rw [eA, z, Int.zero_mul]; rfl
      unfold gb2
      rw [s0, r0, Int.add_zero, upN_same]
  have eo4 : owedN (gb2 N l) l = owedC (sb4 m p s l) p s l := R_owed V1'.1 V1'.2 h0 (by show l < sb3 m p s l 2 s 0; exact h1')
  have rl4 := V1'.2.2.2.2.2.2.2 l h0 (by show l < sb3 m p s l 2 s 0; exact h1')
  have e15 : sb4 m p s l 15 s l = m 15 s l := by show sb3 m p s l 15 s l = _; rw [sk 15 (by omega)]
  have P4 : BP (sb4 m p s l) p := f.2.2.2.1.1
  have N4 : NB (sb4 m p s l) s := BS_nb f.2.2.2.1.2
  have l4 : l < sb4 m p s l 2 s 0 := h1'
  have e22 : ∀ k, 22 ≤ k → sb4 m p s l k = m k := fun k hk => sb4_k (by omega) (by omega) (by omega) (by omega) (by omega) (by omega)
  have rc4 := V1'.1.2.2.2.2.2.1 (m 15 s l) hb.1.1 (by rw [e22 22 (by decide)]; exact hb.1.2)
  rw [eg]
  refine ⟨V1', eA, ?_⟩
  unfold gbN gbE sbC
  rw [eg, eo4]
  by_cases d : owedC (sb4 m p s l) p s l = 0
  · rw [if_pos d, if_pos d]
    have W1 := R_loan20 (l := l) (z := 3) (z' := 3) rfl P4 N4 V1'.1 V1'.2 h0 l4
    exact ⟨W1.1, W1.2, R8_of P4 R8a rfl rfl (fun c' c2 c3 => by rw [upN_off (by omega)])⟩
  · rw [if_neg d, if_neg d, rl4.1, rl4.2.2.2.2.2.2, V1'.2.1.1, e15, rc4.2.2.2.2, e22 32 (by decide)]
    by_cases g : m 32 p (m 15 s l) ≤ sb4 m p s l 0 s 0 - sb4 m p s l 21 s l
    · rw [if_pos g, if_pos (by omega)]
      have W1 := R_loan20 (l := l) (z := 4) (z' := 4) rfl P4 N4 V1'.1 V1'.2 h0 l4
      have P5 : BP (up3 (sb4 m p s l) 20 s l 4) p := P4
      have W2 := R_broken (c := m 15 s l) (z := 1) (z' := 1) rfl P5 (show NB (up3 (sb4 m p s l) 20 s l 4) s from N4) W1.1 W1.2 hb.1.1 (by show m 15 s l < sb4 m p s l 22 p 6; rw [e22 22 (by decide)]; exact hb.1.2)
      have hc8 := hb.1
      have nc := hP.2.2.2.2.2.2.1
      exact ⟨W2.1, W2.2, R8_of P4 R8a rfl rfl (fun c' c2 c3 => by rw [upN_off (by omega), upN_off (by omega)])⟩
    · rw [if_neg g, if_neg (by omega)]
      exact ⟨V1'.1, V1'.2, R8a⟩
theorem R_lnA {m : Mem} {p s : Nat} {N : Int → Int} {l : Int} (hP : BP m p) (hB : BS m p s) (hR : RP m p N) (hS : RS m p s N) (h8 : R8 m p s N) (h0 : 0 ≤ l) (h1 : l < m 2 s 0) : RP (lnA m s l) p (lnA' N l) ∧ RS (lnA m s l) p s (lnA' N l) ∧ R8 (lnA m s l) p s (lnA' N l) := by
  have hl := hS.2.2.2.2.2.2 l h0 h1
  have V := R_loan20 (l := l) (z := 2) (z' := 2) rfl hP (BS_nb hB) hR hS h0 h1
  have V8 : R8 (up3 m 20 s l 2) p s (upN N (318 + 7 * l + 5) 2) := R8_of hP h8 rfl rfl (fun c' c2 c3 => by rw [upN_off (by omega)])
  unfold lnA lnA'
  rw [hl.2.2.2.2.2.1, hl.2.2.2.2.2.2, hS.1.1]
  by_cases d : m 20 s l ≤ 2 ∧ m 21 s l ≤ m 0 s 0
  · rw [if_pos d]
    by_cases g : m 20 s l < 2
    · rw [if_pos ⟨g, d.2⟩]; exact ⟨V.1, V.2, V8⟩
    · rw [if_neg (fun z => g z.1)]
      have e : upN N (318 + 7 * l + 5) 2 = N := by
        rw [show (2 : Int) = N (318 + 7 * l + 5) by rw [hl.2.2.2.2.2.1]; omega, upN_same]
      rw [e] at V V8
      exact ⟨V.1, V.2, V8⟩
  · rw [if_neg d, if_neg (fun z => d ⟨by omega, z.2⟩)]; exact ⟨hR, hS, h8⟩
theorem R_ln {m : Mem} {p s : Nat} {N : Int → Int} {l : Int} (hP : BP m p) (hB : BS m p s) (hN : SN m p s) (hR : RP m p N) (hS : RS m p s N) (h8 : R8 m p s N) (h0 : 0 ≤ l) (h1 : l < m 2 s 0) : RP (lnStep m p s l) p (lnN N l) ∧ RS (lnStep m p s l) p s (lnN N l) ∧ R8 (lnStep m p s l) p s (lnN N l) := by
  have a := lnA_f hP hB hN h0 h1
  have h1' : l < lnA m s l 2 s 0 := by rw [lnA_k (by decide)]; exact h1
  have r := R_lnA hP hB hR hS h8 h0 h1
  have hl := r.2.1.2.2.2.2.2.2 l h0 h1'
  unfold lnStep lnN
  rw [hl.2.2.2.2.2.1]
  by_cases d : lnA m s l 20 s l = 0
  · rw [if_pos d, if_pos d]; exact R_so a.1 a.2.1 a.2.2 r.1 r.2.1 r.2.2 h0 h1'
  · rw [if_neg d, if_neg d]
    by_cases g : lnA m s l 20 s l = 2
    · rw [if_pos g, if_pos g]; exact (R_sb a.1 a.2.1 a.2.2 r.1 r.2.1 r.2.2 h0 h1' g).2.2
    · rw [if_neg g, if_neg g]; exact r
theorem R_lnL {p s : Nat} : ∀ (n : Nat) (m : Mem) (N : Int → Int) (l : Int), BP m p → BS m p s → SN m p s → RP m p N → RS m p s N → R8 m p s N → 0 ≤ l → l + n ≤ m 2 s 0 → RP (lnL m p s l n) p (lnNL N l n) ∧ RS (lnL m p s l n) p s (lnNL N l n) ∧ R8 (lnL m p s l n) p s (lnNL N l n) := by
  intro n
  induction n with
  | zero => intro m N l _ _ _ hR hS h8 _ _; exact ⟨hR, hS, h8⟩
  | succ n ih =>
    intro m N l hP hB hN hR hS h8 h0 h1
    have b := ln_f hP hB hN h0 (by omega)
    have r := R_ln hP hB hN hR hS h8 h0 (by omega)
    exact ih _ _ (l + 1) b.1 b.2.1 b.2.2 r.1 r.2.1 r.2.2 (by omega) (by rw [lnStep_k (by omega)]; omega)
/-- a tick of the row -/
def clNL (N : Int → Int) (c : Int) : Nat → (Int → Int)
  | 0 => N
  | n + 1 => clNL (upN N (86 + 6 * c + 4) 0) (c + 1) n
def tn1 (N : Int → Int) : Int → Int := shNL N (N 2 % 24) 0 (N 3).toNat
def tn2 (N : Int → Int) : Int → Int := trNL (tn1 N) 0 (N 7).toNat
def tn3 (N : Int → Int) : Int → Int := clNL (tn2 N) 0 (N 5).toNat
def tn4 (N : Int → Int) : Int → Int := lnNL (tn3 N) 0 (N 9).toNat
def tkN (N : Int → Int) : Int → Int := upN (tn4 N) 2 (tn4 N 2 + 1)
theorem clNL_ap : ∀ (n : Nat) (N : Int → Int) (c : Int), 0 ≤ c → ∀ j, clNL N c n j = if 86 + 6 * c + 4 ≤ j ∧ j < 86 + 6 * (c + n) + 4 ∧ (j - 86) % 6 = 4 then 0 else N j := by
  intro n
  induction n with
  | zero => intro N c hc j; rw [if_neg (by omega)]; rfl
  | succ n ih =>
    intro N c hc j
    show clNL (upN N (86 + 6 * c + 4) 0) (c + 1) n j = _
    rw [ih _ (c + 1) (by omega), upN_ap]
    by_cases e : j = 86 + 6 * c + 4
    · rw [if_neg (by omega), if_pos e, if_pos (by omega)]
    · rw [if_neg e]
      by_cases g : 86 + 6 * (c + 1) + 4 ≤ j ∧ j < 86 + 6 * (c + 1 + n) + 4 ∧ (j - 86) % 6 = 4
      · rw [if_pos g, if_pos (by omega)]
      · rw [if_neg g, if_neg (by omega)]
theorem RS_fr {m : Mem} {p s : Nat} {N N' : Int → Int} (hP : BP m p) (hB : NB m s) (hN : ∀ j, 0 ≤ j → ¬ (86 ≤ j ∧ j < 158 ∧ (j - 86) % 6 = 4) → N' j = N j) (hR : RP m p N) (hS : RS m p s N) : RP m p N' ∧ RS m p s N' := by
  have n8 := hP.2.2.1
  have n12 := hP.2.2.2.2.2.1
  have nc := hP.2.2.2.2.2.2.1
  have n16 := hB.1
  have n16b := hB.2
  refine ⟨hR.congr hP (fun k a b => rfl) (fun j hj => hN j (by unfold plI at hj; omega) (by unfold plI at hj; omega)), ?_⟩
  obtain ⟨r1, r2, r3, r4, r5, r6, r7⟩ := hS
  refine ⟨?_, fun q' a b => ?_, fun q' a b => ?_, fun c a b => ?_, fun t' a b => ?_, fun c a b => ?_, fun l' a b => ?_⟩
  · obtain ⟨a1, a2, a3, a4, a5, a6, a7⟩ := r1
    exact ⟨by rw [hN _ (by omega) (by omega)]; exact a1, by rw [hN _ (by omega) (by omega)]; exact a2, by rw [hN _ (by omega) (by omega)]; exact a3, by rw [hN _ (by omega) (by omega)]; exact a4, by rw [hN _ (by omega) (by omega)]; exact a5, by rw [hN _ (by omega) (by omega)]; exact a6, by rw [hN _ (by omega) (by omega)]; exact a7⟩
  · rw [hN _ (by omega) (by omega), hN _ (by omega) (by omega), hN _ (by omega) (by omega)]; exact r2 q' a b
  · rw [hN _ (by omega) (by omega), hN _ (by omega) (by omega)]; exact r3 q' a b
  · rw [hN _ (by omega) (by omega), hN _ (by omega) (by omega), hN _ (by omega) (by omega)]; exact r4 c a b
  · rw [hN _ (by omega) (by omega), hN _ (by omega) (by omega), hN _ (by omega) (by omega), hN _ (by omega) (by omega)]; exact r5 t' a b
  · rw [hN _ (by omega) (by omega)]; exact r6 c a b
  · rw [hN _ (by omega) (by omega), hN _ (by omega) (by omega), hN _ (by omega) (by omega), hN _ (by omega) (by omega), hN _ (by omega) (by omega), hN _ (by omega) (by omega), hN _ (by omega) (by omega)]; exact r7 l' a b
theorem RS_m {m m' : Mem} {p s : Nat} {N : Int → Int} (hm : ∀ k, k ≠ 8 → m' k = m k) (hR : RP m p N) (hS : RS m p s N) : RP m' p N ∧ RS m' p s N := by
  have e : ∀ k, k ≠ 8 → m' k = m k := hm
  constructor
  · unfold RP
    rw [e 22 (by decide), e 23 (by decide), e 24 (by decide), e 25 (by decide), e 26 (by decide), e 27 (by decide), e 28 (by decide), e 29 (by decide), e 30 (by decide), e 31 (by decide), e 32 (by decide)]
    exact hR
  · unfold RS R1 R2 R3 R4 R5 R6 R7 numC
    rw [e 22 (by decide), e 0 (by decide), e 1 (by decide), e 2 (by decide), e 3 (by decide), e 4 (by decide), e 5 (by decide), e 6 (by decide), e 7 (by decide), e 9 (by decide), e 10 (by decide), e 11 (by decide), e 12 (by decide), e 13 (by decide), e 14 (by decide), e 15 (by decide), e 16 (by decide), e 17 (by decide), e 18 (by decide), e 19 (by decide), e 20 (by decide), e 21 (by decide)]
    exact hS
/-- THE TICK, side by side; and the steps between -/
theorem R_tk {m : Mem} {p s : Nat} {N : Int → Int} (hP : BP m p) (hB : BS m p s) (hR : RP m p N) (hS : RS m p s N) :
    (RP (tk0 m s) p N ∧ RS (tk0 m s) p s N) ∧ (RP (tk1 m p s) p (tn1 N) ∧ RS (tk1 m p s) p s (tn1 N)) ∧ (RP (tk2 m p s) p (tn2 N) ∧ RS (tk2 m p s) p s (tn2 N)) ∧ (RP (tk2 m p s) p (tn3 N) ∧ RS (tk2 m p s) p s (tn3 N) ∧ R8 (tk2 m p s) p s (tn3 N)) ∧ (RP (tk3 m p s) p (tn4 N) ∧ RS (tk3 m p s) p s (tn4 N) ∧ R8 (tk3 m p s) p s (tn4 N)) ∧ (RP (tkC m p s) p (tkN N) ∧ RS (tkC m p s) p s (tkN N) ∧ R8 (tkC m p s) p s (tkN N)) := by
  have f := tk_facts hP hB
  have n8 := hP.2.2.1
  have n12 := hP.2.2.2.2.2.1
  have n16 := hB.2.2.2.1.1
  have n16b := hB.2.2.2.2.1.1
  have a0 := RS_m (m' := tk0 m s) (fun k h => tk0_k h) hR hS
  have t0 := hB.1
  have a1 := R_shL (p := p) (s := s) (hr := N 2 % 24) (by rw [hS.1.1]; omega) (N 3).toNat (tk0 m s) N 0 f.1.1 f.1.2 a0.1 a0.2 (by omega) (by rw [hR.1.2.2.1, tk0_k (by decide)]; omega)
  have e1 : shL (tk0 m s) p s (N 2 % 24) 0 (N 3).toNat = tk1 m p s := by unfold tk1; rw [hS.1.1, hR.1.2.2.1]
  rw [e1] at a1
  have a2 := R_trL (p := p) (s := s) (N 7).toNat (tk1 m p s) (tn1 N) 0 f.2.1.1 f.2.1.2 a1.1 a1.2 (by omega) (by rw [hS.1.2.2.2.2.2.1, tk1_k (by decide) (by decide) (by decide)]; omega)
  have e2 : trL (tk1 m p s) p s 0 (N 7).toNat = tk2 m p s := by unfold tk2; rw [hS.1.2.2.2.2.2.1]
  rw [e2] at a2
  have cl := fun j => clNL_ap (N 5).toNat (tn2 N) 0 (by omega) j
  have a3 := RS_fr (N := tn2 N) (N' := tn3 N) f.2.2.1.1 (BS_nb f.2.2.1.2.1) (fun j j0 hj => by unfold tn3; rw [cl, if_neg (by rw [hR.1.2.2.2.2.2.1]; omega)]) a2.1 a2.2
  have e8 : ∀ c, tk2 m p s 8 s c = 0 := fun c => by
    unfold tk2
    rw [trL_k (by decide) (by decide) (by decide) (by decide)]
    unfold tk1
    rw [shL_k (by decide) (by decide)]
    unfold tk0 fiA
    rw [if_pos ⟨rfl, rfl⟩]
  have a38 : R8 (tk2 m p s) p s (tn3 N) := by
    intro c c0 c1
    rw [tk2_k (by decide) (by decide) (by decide) (by decide) (by decide)] at c1
    rw [e8]
    unfold tn3
    rw [cl, if_pos (by rw [hR.1.2.2.2.2.2.1]; omega)]
  have a4 := R_lnL (p := p) (s := s) (N 9).toNat (tk2 m p s) (tn3 N) 0 f.2.2.1.1 f.2.2.1.2.1 f.2.2.1.2.2 a3.1 a3.2 a38 (by omega) (by rw [hS.1.2.2.2.2.2.2, tk2_k (by decide) (by decide) (by decide) (by decide) (by decide)]; omega)
  have e4 : lnL (tk2 m p s) p s 0 (N 9).toNat = tk3 m p s := by unfold tk3; rw [hS.1.2.2.2.2.2.2]
  rw [e4] at a4
  have a4 : RP (tk3 m p s) p (tn4 N) ∧ RS (tk3 m p s) p s (tn4 N) ∧ R8 (tk3 m p s) p s (tn4 N) := a4
  have a5 := R_time (m := tk3 m p s) (N := tn4 N) (z := m 0 s 0 + 1) (z' := tn4 N 2 + 1) (by rw [a4.2.1.1.1, tk3_t]) f.2.2.2.1 f.2.2.2.2.1 a4.1 a4.2.1
  exact ⟨a0, a1, a2, ⟨a3.1, a3.2, a38⟩, a4, a5.1, a5.2, R8_of f.2.2.2.1 a4.2.2 rfl rfl (fun c' c2 c3 => by unfold tkN; rw [upN_off (by omega)])⟩
