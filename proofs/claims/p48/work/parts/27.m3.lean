theorem sends_PN {m : Mem} {p s : Nat} {N : Int → Int} {c a b x : Int} (hP : BP m p) (hB : BS m p s) (hR : RP m p N) (hS : RS m p s N) (h8 : R8 m p s N) (c0 : 0 ≤ c) (c1 : c < m 22 p 5) (a0 : 0 ≤ a) (a1 : a < m 22 p 2) (b0 : 0 ≤ b) (b1 : b < m 22 p 2) (hx : 0 ≤ x ∧ x ≤ m 3 s a) (hx2 : x ≤ m 7 s c - m 8 s c) :
    PN (carryN (giveN N a x) c x (x * N (86 + 6 * c + 2) / 1000)) b ∧ carryN (giveN N a x) c x (x * N (86 + 6 * c + 2) / 1000) (30 + 7 * b + 1) + (x - x * N (86 + 6 * c + 2) / 1000) ≤ 1000000 := by
  have n12 := hP.2.2.2.2.2.1
  have hcb := hB.2.2.1 c c0 c1
  have hc6 := hcb.1
  have hc7 := hcb.2.1
  have hc8 := hcb.2.2
  have e6 : N (86 + 6 * c + 2) = m 6 s c := (hS.2.2.2.1 c c0 c1).1
  have B1 := BS_give hP hB a0 a1 hx
  have U1 := R_give (x := x) hP hB hR hS a0 a1
  have n8 := hP.2.2.1
  have U8 : R8 (giveC m p s a x) p s (giveN N a x) := R8_of hP h8 (giveC_k (by decide) (by decide) (by decide)) (giveC_k (by decide) (by decide) (by decide)) (fun c' c2 c3 => giveN_lo a0 (by omega) (by omega) (by omega))
  have g6 : giveC m p s a x 6 s c = m 6 s c := by rw [giveC_k (by decide) (by decide) (by decide)]
  have g8 : giveC m p s a x 8 s c = m 8 s c := by rw [giveC_k (by decide) (by decide) (by decide)]
  have g22 : giveC m p s a x 22 = m 22 := giveC_k (by decide) (by decide) (by decide)
  have U2 := R_carry (x := x) (y := x * m 6 s c / 1000) B1.1 B1.2 U1.1 U1.2 U8 c0 (by rw [g22]; exact c1) (by rw [g6])
  have P2 : BP (carryC (giveC m p s a x) s c x) p := B1.1
  have B2 : BS (carryC (giveC m p s a x) s c x) p s := BS_up8 (m := giveC m p s a x) (by rw [g8]; omega) B1.2
  have g22' : carryC (giveC m p s a x) s c x 22 = m 22 := by rw [carry_k (by decide) (by decide), g22]
  have hlo : x * m 6 s c ≤ x * 900 := Int.mul_le_mul_of_nonneg_left hc6.2 hx.1
  have hl0 : 0 ≤ x * m 6 s c := Int.mul_nonneg hx.1 hc6.1
  rw [e6]
  have pn := PN_of P2 B2 U2.1 U2.2.1 b0 (by rw [g22']; exact b1)
  refine ⟨pn, ?_⟩
  have q1 := (U2.2.1.2.1 b b0 (by rw [g22']; exact b1)).1
  have q2 := (B2.2.1 b b0 (by rw [g22']; exact b1)).1
  have q3 := roomC_b (BS_pf P2 B2 b0 (by rw [g22']; exact b1))
  have q4 := (BS_pf P2 B2 b0 (by rw [g22']; exact b1)).2.1
  omega
