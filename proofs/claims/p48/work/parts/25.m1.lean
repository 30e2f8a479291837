/-- facts of one loan, in the row -/
def LN (N : Int → Int) (l : Int) : Prop := (0 ≤ N (318 + 7 * l + 0) ∧ N (318 + 7 * l + 0) < 8) ∧ (0 ≤ N (318 + 7 * l + 1) ∧ N (318 + 7 * l + 1) ≤ 100000) ∧ (0 ≤ N (318 + 7 * l + 2) ∧ N (318 + 7 * l + 2) ≤ N (318 + 7 * l + 1)) ∧ (0 ≤ N (318 + 7 * l + 3) ∧ N (318 + 7 * l + 3) ≤ 100000000) ∧ (0 ≤ N (318 + 7 * l + 4) ∧ N (318 + 7 * l + 4) ≤ 200000000) ∧ (0 ≤ N (318 + 7 * l + 5) ∧ N (318 + 7 * l + 5) ≤ 5) ∧ (1 ≤ N 1 ∧ N 1 ≤ 10000)
theorem LN_of {m : Mem} {p s : Nat} {N : Int → Int} {l : Int} (hP : BP m p) (hB : BS m p s) (hR : RP m p N) (hS : RS m p s N) (h0 : 0 ≤ l) (h1 : l < m 2 s 0) : LN N l := by
  have a := BS_lf hP hB h0 h1
  have c := hS.2.2.2.2.2.2 l h0 h1
  unfold LN
  rw [c.1, c.2.1, c.2.2.1, c.2.2.2.1, c.2.2.2.2.1, c.2.2.2.2.2.1, hR.1.2.1]
  exact a
theorem intN_b {N : Int → Int} {x : Int} (hx : 0 ≤ x ∧ x ≤ 100000000) (hf : 1 ≤ N 1 ∧ N 1 ≤ 10000) : 0 ≤ intN N x ∧ intN N x ≤ x := by
  unfold intN
  refine ⟨Int.ediv_nonneg (by omega) (by omega), ?_⟩
  have h1 : x + N 1 - 1 < (x + 1) * N 1 := by
    have : x * 1 ≤ x * N 1 := Int.mul_le_mul_of_nonneg_left hf.1 hx.1
    rw [Int.add_mul]; omega
  have h2 := Int.ediv_lt_of_lt_mul (by omega : 0 < N 1) h1
  omega
theorem owedN_b {N : Int → Int} {l : Int} (h : LN N l) : 0 ≤ owedN N l ∧ owedN N l ≤ 100100000 := by
  obtain ⟨h1, h2, h3, h4, h5, h6, h7⟩ := h
  have hb := intN_b h4 h7
  unfold owedN
  split <;> omega
