theorem sb1_k {m : Mem} {p s k : Nat} {l : Int} (h3 : k ≠ 3) (h0 : k ≠ 0) (h4 : k ≠ 4) : sb1 m p s l k = m k := giveC_k h3 h0 h4
theorem sb2_k {m : Mem} {p s k : Nat} {l : Int} (h3 : k ≠ 3) (h0 : k ≠ 0) (h4 : k ≠ 4) (h8 : k ≠ 8) (h9 : k ≠ 9) : sb2 m p s l k = m k := by
  unfold sb2
  rw [carry_k h8 h9, sb1_k h3 h0 h4]
theorem sb3_k {m : Mem} {p s k : Nat} {l : Int} (h3 : k ≠ 3) (h0 : k ≠ 0) (h4 : k ≠ 4) (h8 : k ≠ 8) (h9 : k ≠ 9) : sb3 m p s l k = m k := by
  unfold sb3
  rw [getC_k h3 h0, sb2_k h3 h0 h4 h8 h9]
theorem sb4_k {m : Mem} {p s k : Nat} {l : Int} (h3 : k ≠ 3) (h0 : k ≠ 0) (h4 : k ≠ 4) (h8 : k ≠ 8) (h9 : k ≠ 9) (h19 : k ≠ 19) : sb4 m p s l k = m k := by
  unfold sb4
  rw [← sb3_k (m := m) (p := p) (s := s) (l := l) h3 h0 h4 h8 h9]
  funext i j
  simp only [up3_apply, h19, false_and, if_false]
theorem sbC_k {m : Mem} {p s k : Nat} {l : Int} (h3 : k ≠ 3) (h0 : k ≠ 0) (h4 : k ≠ 4) (h8 : k ≠ 8) (h9 : k ≠ 9) (h19 : k ≠ 19) (h20 : k ≠ 20) (h10 : k ≠ 10) : sbC m p s l k = m k := by
  unfold sbC
  rw [← sb4_k (m := m) (p := p) (s := s) (l := l) h3 h0 h4 h8 h9 h19]
  split
  · funext i j
    simp only [up3_apply, h20, false_and, if_false]
  · split
    · funext i j
      simp only [up3_apply, h20, h10, false_and, if_false]
    · rfl
theorem sbA_b {m : Mem} {p s : Nat} {l : Int} (hP : BP m p) (hS : BS m p s) (hN : SN m p s) (h0 : 0 ≤ l) (h1 : l < m 2 s 0) :
    (0 ≤ sbA m p s l ∧ sbA m p s l ≤ m 3 s (m 29 p (m 15 s l))) ∧ sbA m p s l ≤ m 7 s (cbC m p s l) - m 8 s (cbC m p s l) ∧ (owedC m p s l = 0 → sbA m p s l = 0) := by
  have hb := hS.2.2.2.2.1.2 l h0 h1
  have hc := BP_c hP hb.1.1 hb.1.2
  have hq := hS.2.1 _ hc.2.1.1 hc.2.1.2
  have hcb := hS.2.2.1 (cbC m p s l) hc.2.2.2.2.2.2.1 hc.2.2.2.2.2.2.2
  have hn := hN (cbC m p s l) hc.2.2.2.2.2.2.1 hc.2.2.2.2.2.2.2
  have hl6 := hcb.1
  have ho := owedC_b (BS_lf hP hS h0 h1)
  have hd : 0 ≤ (owedC m p s l * 1000 + (1000 - m 6 s (cbC m p s l)) - 1) / (1000 - m 6 s (cbC m p s l)) := Int.ediv_nonneg (by omega) (by omega)
  have h3 := hq.1.1
  refine ⟨by unfold sbA; omega, by unfold sbA; omega, fun e => ?_⟩
  have hz : (owedC m p s l * 1000 + (1000 - m 6 s (cbC m p s l)) - 1) / (1000 - m 6 s (cbC m p s l)) = 0 := Int.ediv_eq_zero_of_lt (by omega) (by omega)
  unfold sbA
  omega
theorem sbR_b {m : Mem} {p s : Nat} {l : Int} (hP : BP m p) (hS : BS m p s) (hN : SN m p s) (h0 : 0 ≤ l) (h1 : l < m 2 s 0) : 0 ≤ sbR m p s l ∧ sbR m p s l ≤ sbA m p s l := by
  have hb := hS.2.2.2.2.1.2 l h0 h1
  have hc := BP_c hP hb.1.1 hb.1.2
  have ha := sbA_b hP hS hN h0 h1
  have hcb := hS.2.2.1 (cbC m p s l) hc.2.2.2.2.2.2.1 hc.2.2.2.2.2.2.2
  unfold sbR
  rw [sb1_k (by decide) (by decide) (by decide)]
  have h2 : sbA m p s l * m 6 s (cbC m p s l) ≤ sbA m p s l * 900 := Int.mul_le_mul_of_nonneg_left hcb.1.2 ha.1.1
  have h3 : 0 ≤ sbA m p s l * m 6 s (cbC m p s l) := Int.mul_nonneg ha.1.1 hcb.1.1
  omega
theorem sb_facts {m : Mem} {p s : Nat} {l : Int} (hP : BP m p) (hS : BS m p s) (hN : SN m p s) (h0 : 0 ≤ l) (h1 : l < m 2 s 0) (h2 : m 20 s l = 2) :
    (BP (sb1 m p s l) p ∧ BS (sb1 m p s l) p s) ∧ (BP (sb2 m p s l) p ∧ BS (sb2 m p s l) p s) ∧ (BP (sb3 m p s l) p ∧ BS (sb3 m p s l) p s) ∧ (BP (sb4 m p s l) p ∧ BS (sb4 m p s l) p s) ∧ (BP (sbC m p s l) p ∧ BS (sbC m p s l) p s ∧ SN (sbC m p s l) p s) := by
  have hb := hS.2.2.2.2.1.2 l h0 h1
  have hc := BP_c hP hb.1.1 hb.1.2
  have ha := sbA_b hP hS hN h0 h1
  have hr := sbR_b hP hS hN h0 h1
  have hcb := hS.2.2.1 (cbC m p s l) hc.2.2.2.2.2.2.1 hc.2.2.2.2.2.2.2
  have b1 : BP (sb1 m p s l) p ∧ BS (sb1 m p s l) p s := BS_give hP hS hc.2.1.1 hc.2.1.2 ha.1
  have hP2 : BP (sb2 m p s l) p := b1.1
  have b2 : BS (sb2 m p s l) p s := by
    have e8 : sb1 m p s l 8 s (cbC m p s l) = m 8 s (cbC m p s l) := by rw [sb1_k (by decide) (by decide) (by decide)]
    exact BS_up8 (m := sb1 m p s l) (by rw [e8]; have := hcb.2.1; have := hcb.2.2; omega) b1.2
  have b3 : BP (sb3 m p s l) p ∧ BS (sb3 m p s l) p s := BS_get hP2 b2 (by exact hc.1.1) (by rw [sb2_k (by decide) (by decide) (by decide) (by decide) (by decide)]; exact hc.1.2) hr.1
  have e15 : ∀ k, k ≠ 3 → k ≠ 0 → k ≠ 4 → k ≠ 8 → k ≠ 9 → sb3 m p s l k = m k := fun k a b c d e => sb3_k a b c d e
  have hl3 : Bl (sb3 m p s l) p s l := b3.2.2.2.2.2.1.2 l h0 (by rw [e15 2 (by decide) (by decide) (by decide) (by decide) (by decide)]; exact h1)
  have hl4 : Bl (sb4 m p s l) p s l := by
    unfold sb4
    refine ⟨hl3.1, hl3.2.1, hl3.2.2.1, hl3.2.2.2.1, ?_, hl3.2.2.2.2.2.1, hl3.2.2.2.2.2.2⟩
    rw [up3_at]
    show 0 ≤ sb3 m p s l 19 s l + sbR m p s l ∧ sb3 m p s l 19 s l + sbR m p s l ≤ sb3 m p s l 17 s l + intC (sb3 m p s l) p (sb3 m p s l 18 s l) + 10000
    have ei : intC (sb3 m p s l) p (sb3 m p s l 18 s l) = intC m p (m 18 s l) := by
      unfold intC
      rw [e15 22 (by decide) (by decide) (by decide) (by decide) (by decide), e15 18 (by decide) (by decide) (by decide) (by decide) (by decide)]
    rw [ei, e15 19 (by decide) (by decide) (by decide) (by decide) (by decide), e15 17 (by decide) (by decide) (by decide) (by decide) (by decide)]
    have h19 := hb.2.2.2.2.1
    by_cases e : owedC m p s l = 0
    · have := ha.2.2 e
      omega
    · have ho : owedC m p s l = max 0 (m 17 s l + intC m p (m 18 s l) - m 19 s l) := by unfold owedC; rw [if_pos (by omega)]
      have := ha.2.1
      have := hcb.2
      omega
  have b4 : BS (sb4 m p s l) p s := by
    refine BS_loan (m := sb3 m p s l) (l := l) b3.2 (fun k hk => ?_) hl4 (fun j hj k => ?_)
    · unfold sb4; funext i j
      rw [up3_apply, if_neg (by omega)]
    · unfold sb4
      rw [up3_apply, if_neg (fun z => hj z.2.2)]
  have hP4 : BP (sb4 m p s l) p := b3.1
  have hst : ∀ z, 0 ≤ z ∧ z ≤ 5 → BS (up3 (sb4 m p s l) 20 s l z) p s := fun z hz => by
    refine BS_loan (m := sb4 m p s l) (l := l) b4 (fun k hk => ?_) ?_ (fun j hj k => ?_)
    · funext i j
      rw [up3_apply, if_neg (by omega)]
    · exact ⟨hl4.1, hl4.2.1, hl4.2.2.1, hl4.2.2.2.1, hl4.2.2.2.2.1, by rw [up3_at]; exact hz, hl4.2.2.2.2.2.2⟩
    · rw [up3_apply, if_neg (fun z => hj z.2.2)]
  have hPC : BP (sbC m p s l) p := by
    unfold sbC
    split
    · exact hP4
    · split <;> exact hP4
  have bC : BS (sbC m p s l) p s := by
    unfold sbC
    split
    · exact hst 3 (by decide)
    · split
      · exact BS_up10 (by decide) (hst 4 (by decide))
      · exact b4
  refine ⟨b1, ⟨hP2, b2⟩, b3, ⟨hP4, b4⟩, hPC, bC, fun c a b => ?_⟩
  have e7 : sbC m p s l 7 = m 7 := sbC_k (by decide) (by decide) (by decide) (by decide) (by decide) (by decide) (by decide) (by decide)
  have e22 : sbC m p s l 22 = m 22 := sbC_k (by decide) (by decide) (by decide) (by decide) (by decide) (by decide) (by decide) (by decide)
  have e8 : sbC m p s l 8 s c = if c = cbC m p s l then m 8 s (cbC m p s l) + sbA m p s l else m 8 s c := by
    have e1 : sbC m p s l 8 = sb4 m p s l 8 := by
      unfold sbC; split
      · rfl
      · split <;> rfl
    rw [e1]
    show sb3 m p s l 8 s c = _
    unfold sb3
    rw [getC_k (by decide) (by decide)]
    unfold sb2
    rw [carry_8, sb1_k (by decide) (by decide) (by decide)]
  rw [e7, e8]
  rw [e22] at b
  have hn := hN c a b
  split
  · rename_i e; subst e; omega
  · exact hn
/-- a loan in a tick -/
def lnA (m : Mem) (s : Nat) (l : Int) : Mem := if m 20 s l ≤ 2 ∧ m 21 s l ≤ m 0 s 0 then up3 m 20 s l 2 else m
def lnStep (m : Mem) (p s : Nat) (l : Int) : Mem := if lnA m s l 20 s l = 0 then soC (lnA m s l) p s l else if lnA m s l 20 s l = 2 then sbC (lnA m s l) p s l else lnA m s l
def lnL (m : Mem) (p s : Nat) (l : Int) : Nat → Mem
  | 0 => m
  | n + 1 => lnL (lnStep m p s l) p s (l + 1) n
theorem lnA_k {m : Mem} {s k : Nat} {l : Int} (h20 : k ≠ 20) : lnA m s l k = m k := by
  unfold lnA
  split
  · funext i j
    simp only [up3_apply, h20, false_and, if_false]
  · rfl
theorem lnA_f {m : Mem} {p s : Nat} {l : Int} (hP : BP m p) (hS : BS m p s) (hN : SN m p s) (h0 : 0 ≤ l) (h1 : l < m 2 s 0) : BP (lnA m s l) p ∧ BS (lnA m s l) p s ∧ SN (lnA m s l) p s := by
  have hb := hS.2.2.2.2.1.2 l h0 h1
  refine ⟨?_, ?_, ?_⟩
  · exact hP.congr (fun k a b => by rw [lnA_k (by omega)])
  · unfold lnA
    split
    · refine BS_loan (m := m) (l := l) hS (fun k hk => ?_) ?_ (fun j hj k => ?_)
      · funext i j
        rw [up3_apply, if_neg (by omega)]
      · exact ⟨hb.1, hb.2.1, hb.2.2.1, hb.2.2.2.1, hb.2.2.2.2.1, by rw [up3_at]; omega, hb.2.2.2.2.2.2⟩
      · rw [up3_apply, if_neg (fun z => hj z.2.2)]
    · exact hS
  · exact SN_k hN (lnA_k (by decide)) (lnA_k (by decide)) (lnA_k (by decide))
theorem ln_f {m : Mem} {p s : Nat} {l : Int} (hP : BP m p) (hS : BS m p s) (hN : SN m p s) (h0 : 0 ≤ l) (h1 : l < m 2 s 0) : BP (lnStep m p s l) p ∧ BS (lnStep m p s l) p s ∧ SN (lnStep m p s l) p s := by
  have a := lnA_f hP hS hN h0 h1
  have h1' : l < lnA m s l 2 s 0 := by rw [lnA_k (by decide)]; exact h1
  unfold lnStep
  split
  · exact (so_facts a.1 a.2.1 a.2.2 h0 h1').2.2.2
  · split
    · exact (sb_facts a.1 a.2.1 a.2.2 h0 h1' (by assumption)).2.2.2.2
    · exact a
theorem lnStep_k {m : Mem} {p s k : Nat} {l : Int} (h : k = 1 ∨ k = 2 ∨ k = 5 ∨ k = 6 ∨ k = 7 ∨ 11 ≤ k ∧ k ≤ 16 ∨ 21 ≤ k) : lnStep m p s l k = m k := by
  unfold lnStep
  have ha : lnA m s l k = m k := lnA_k (by omega)
  split
  · rw [soC_k (by omega) (by omega) (by omega) (by omega) (by omega) (by omega) (by omega) (by omega), ha]
  · split
    · rw [sbC_k (by omega) (by omega) (by omega) (by omega) (by omega) (by omega) (by omega) (by omega), ha]
    · exact ha
theorem lnL_k {p s k : Nat} (h : k = 1 ∨ k = 2 ∨ k = 5 ∨ k = 6 ∨ k = 7 ∨ 11 ≤ k ∧ k ≤ 16 ∨ 21 ≤ k) : ∀ (n : Nat) (m : Mem) (l : Int), lnL m p s l n k = m k := by
  intro n
  induction n with
  | zero => intro m l; rfl
  | succ n ih => intro m l; show lnL (lnStep m p s l) p s (l + 1) n k = _; rw [ih, lnStep_k h]
theorem lnL_f {p s : Nat} : ∀ (n : Nat) (m : Mem) (l : Int), BP m p → BS m p s → SN m p s → 0 ≤ l → l + n ≤ m 2 s 0 → BP (lnL m p s l n) p ∧ BS (lnL m p s l n) p s ∧ SN (lnL m p s l n) p s := by
  intro n
  induction n with
  | zero => intro m l hP hS hN h0 h1; exact ⟨hP, hS, hN⟩
  | succ n ih =>
    intro m l hP hS hN h0 h1
    have b := ln_f hP hS hN h0 (by omega)
    exact ih _ (l + 1) b.1 b.2.1 b.2.2 (by omega) (by rw [lnStep_k (by omega)]; omega)
/-- a tick -/
def tk0 (m : Mem) (s : Nat) : Mem := fiA m 8 s 0
def tk1 (m : Mem) (p s : Nat) : Mem := shL (tk0 m s) p s (m 0 s 0 % 24) 0 (m 22 p 2).toNat
def tk2 (m : Mem) (p s : Nat) : Mem := trL (tk1 m p s) p s 0 (m 1 s 0).toNat
def tk3 (m : Mem) (p s : Nat) : Mem := lnL (tk2 m p s) p s 0 (m 2 s 0).toNat
def tkC (m : Mem) (p s : Nat) : Mem := up3 (tk3 m p s) 0 s 0 (m 0 s 0 + 1)
theorem tk0_k {m : Mem} {s k : Nat} (h : k ≠ 8) : tk0 m s k = m k := by
  unfold tk0 fiA
  funext i j
  rw [if_neg (fun z => h z.1)]
theorem tk1_k {m : Mem} {p s k : Nat} (h8 : k ≠ 8) (h3 : k ≠ 3) (h0 : k ≠ 0) : tk1 m p s k = m k := by
  unfold tk1
  rw [shL_k h3 h0, tk0_k h8]
theorem tk2_k {m : Mem} {p s k : Nat} (h8 : k ≠ 8) (h3 : k ≠ 3) (h0 : k ≠ 0) (h4 : k ≠ 4) (h14 : k ≠ 14) : tk2 m p s k = m k := by
  unfold tk2
  rw [trL_k h3 h0 h4 h14, tk1_k h8 h3 h0]
theorem tk3_k {m : Mem} {p s k : Nat} (h : k = 1 ∨ k = 2 ∨ k = 5 ∨ k = 6 ∨ k = 7 ∨ 11 ≤ k ∧ k ≤ 13 ∨ 15 ≤ k ∧ k ≤ 16 ∨ 21 ≤ k) : tk3 m p s k = m k := by
  unfold tk3
  rw [lnL_k (by omega), tk2_k (by omega) (by omega) (by omega) (by omega) (by omega)]
theorem tkC_k {m : Mem} {p s k : Nat} (h : k = 1 ∨ k = 2 ∨ k = 5 ∨ k = 6 ∨ k = 7 ∨ 11 ≤ k ∧ k ≤ 13 ∨ 15 ≤ k ∧ k ≤ 16 ∨ 21 ≤ k) : tkC m p s k = m k := by
  unfold tkC
  rw [← tk3_k (m := m) (p := p) (s := s) h]
  funext i j
  rw [up3_apply, if_neg (by omega)]
theorem tk_facts {m : Mem} {p s : Nat} (hP : BP m p) (hS : BS m p s) : (BP (tk0 m s) p ∧ BS (tk0 m s) p s) ∧ (BP (tk1 m p s) p ∧ BS (tk1 m p s) p s) ∧ (BP (tk2 m p s) p ∧ BS (tk2 m p s) p s ∧ SN (tk2 m p s) p s) ∧ (BP (tk3 m p s) p ∧ BS (tk3 m p s) p s ∧ SN (tk3 m p s) p s) := by
  have n8 := hP.2.2.1
  have hP0 : BP (tk0 m s) p := hP.congr (fun k a b => by rw [tk0_k (by omega)])
  have hS0 : BS (tk0 m s) p s := by
    have hk : ∀ k, k ≠ 8 → tk0 m s k = m k := fun k h => tk0_k h
    refine ⟨hS.1, hS.2.1, fun c a b => ⟨(hS.2.2.1 c a b).1, (hS.2.2.1 c a b).2.1, ?_⟩, hS.2.2.2⟩
    unfold tk0 fiA
    rw [if_pos ⟨rfl, rfl⟩]
    decide
  have b1 : BP (tk1 m p s) p ∧ BS (tk1 m p s) p s := BS_shL (m 22 p 2).toNat (tk0 m s) 0 hP0 hS0 (by omega) (by rw [tk0_k (by decide)]; omega)
  have n1 := hS.2.2.2.1.1
  have b2 : BP (tk2 m p s) p ∧ BS (tk2 m p s) p s := BS_trL (m 1 s 0).toNat (tk1 m p s) 0 b1.1 b1.2 (by omega) (by rw [tk1_k (by decide) (by decide) (by decide)]; omega)
  have hN2 : SN (tk2 m p s) p s := by
    intro c a b
    have e8 : tk2 m p s 8 s c = 0 := by
      unfold tk2
      rw [trL_k (by decide) (by decide) (by decide) (by decide)]
      unfold tk1
      rw [shL_k (by decide) (by decide)]
      unfold tk0 fiA
      rw [if_pos ⟨rfl, rfl⟩]
    rw [e8]
    have := (b2.2.2.2.1 c a b).2.1
    omega
  have n2 := hS.2.2.2.2.1.1
  have b3 := lnL_f (m 2 s 0).toNat (tk2 m p s) 0 b2.1 b2.2 hN2 (by omega) (by rw [tk2_k (by decide) (by decide) (by decide) (by decide) (by decide)]; omega)
  exact ⟨⟨hP0, hS0⟩, b1, ⟨b2.1, b2.2, hN2⟩, b3⟩
theorem tkC_f {m : Mem} {p s : Nat} (hP : BP m p) (hS : BS m p s) (ht : m 0 s 0 < 11000) : BP (tkC m p s) p ∧ BS (tkC m p s) p s := by
  have f := (tk_facts hP hS).2.2.2
  exact ⟨f.1, BS_time (by have := hS.1; omega) f.2.1⟩
theorem soC_t {m : Mem} {p s : Nat} {l : Int} : soC m p s l 0 s 0 = m 0 s 0 := by
  have e1 : soC m p s l 0 = so5 m p s l 0 := by unfold soC; split <;> rfl
  rw [e1]
  show so4 m p s l 0 s 0 = _
  unfold so4
  rw [getC_0, if_neg (by decide)]
  show so1 m p s l 0 s 0 = _
  unfold so1
  rw [giveC_0, if_neg (by decide)]
theorem sbC_t {m : Mem} {p s : Nat} {l : Int} : sbC m p s l 0 s 0 = m 0 s 0 := by
  have e1 : sbC m p s l 0 = sb4 m p s l 0 := by
    unfold sbC; split
    · rfl
    · split <;> rfl
  rw [e1]
  show sb3 m p s l 0 s 0 = _
  unfold sb3
  rw [getC_0, if_neg (by decide)]
  show sb1 m p s l 0 s 0 = _
  unfold sb1
  rw [giveC_0, if_neg (by decide)]
theorem sb4_t {m : Mem} {p s : Nat} {l : Int} : sb4 m p s l 0 s 0 = m 0 s 0 := by
  show sb3 m p s l 0 s 0 = _
  unfold sb3
  rw [getC_0, if_neg (by decide)]
  show sb1 m p s l 0 s 0 = _
  unfold sb1
  rw [giveC_0, if_neg (by decide)]
theorem lnStep_t {m : Mem} {p s : Nat} {l : Int} : lnStep m p s l 0 s 0 = m 0 s 0 := by
  unfold lnStep
  have ha : lnA m s l 0 = m 0 := lnA_k (by decide)
  split
  · rw [soC_t, ha]
  · split
    · rw [sbC_t, ha]
    · rw [ha]
theorem lnL_t {p s : Nat} : ∀ (n : Nat) (m : Mem) (l : Int), lnL m p s l n 0 s 0 = m 0 s 0 := by
  intro n
  induction n with
  | zero => intro m l; rfl
  | succ n ih => intro m l; show lnL (lnStep m p s l) p s (l + 1) n 0 s 0 = _; rw [ih, lnStep_t]
theorem trStep_t {m : Mem} {p s : Nat} {t : Int} : trStep m p s t 0 s 0 = m 0 s 0 := by
  unfold trStep
  split
  · split
    · rw [giveC_0, if_neg (by decide), up3_off (by decide)]; rfl
    · rfl
  · rfl
theorem trL_t {p s : Nat} : ∀ (n : Nat) (m : Mem) (t : Int), trL m p s t n 0 s 0 = m 0 s 0 := by
  intro n
  induction n with
  | zero => intro m l; rfl
  | succ n ih => intro m l; show trL (trStep m p s l) p s (l + 1) n 0 s 0 = _; rw [ih, trStep_t]
theorem shStep_t {m : Mem} {p s : Nat} {hr q : Int} : shStep m p s hr q 0 s 0 = m 0 s 0 := by
  unfold shStep
  split
  · rw [getC_0, if_neg (by decide), up3_off (by decide)]
  · rfl
theorem shL_t {p s : Nat} {hr : Int} : ∀ (n : Nat) (m : Mem) (q : Int), shL m p s hr q n 0 s 0 = m 0 s 0 := by
  intro n
  induction n with
  | zero => intro m l; rfl
  | succ n ih => intro m l; show shL (shStep m p s hr l) p s hr (l + 1) n 0 s 0 = _; rw [ih, shStep_t]
theorem tk1_t {m : Mem} {p s : Nat} : tk1 m p s 0 s 0 = m 0 s 0 := by unfold tk1; rw [shL_t, tk0_k (by decide)]
theorem tk2_t {m : Mem} {p s : Nat} : tk2 m p s 0 s 0 = m 0 s 0 := by unfold tk2; rw [trL_t, tk1_t]
theorem tk3_t {m : Mem} {p s : Nat} : tk3 m p s 0 s 0 = m 0 s 0 := by unfold tk3; rw [lnL_t, tk2_t]
theorem tkC_t {m : Mem} {p s : Nat} : tkC m p s 0 s 0 = m 0 s 0 + 1 := by unfold tkC; rw [up3_at]
