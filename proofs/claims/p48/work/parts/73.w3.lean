/-! load and append keep it -/
theorem ldL_3 : ∀ (n : Nat) (m : Mem), RB m → m 34 0 3 ≤ ldL m n 34 0 3 ∧ ldL m n 34 0 3 ≤ m 34 0 3 + n := by
  intro n
  induction n with
  | zero => intro m h; exact ⟨Int.le_refl _, by show m 34 0 3 ≤ _; omega⟩
  | succ n ih =>
    intro m h
    unfold ldL
    split
    · have r := RK_st (RB_nxt h)
      have i := ih _ r.1
      have e : nxt m 34 0 3 = m 34 0 3 + 1 := by
        unfold nxt
        rw [up3_at, (RK_se h).2.2.1]
      rw [r.2.2.1, e] at i
      omega
    · have e := (RK_se h).2.2.1
      rw [e]
      omega
theorem all_3 {m : Mem} (h : RW m) : 0 ≤ ldL (stM (ld0 m)) (stM (ld0 m) 34 0 5).toNat 34 0 3 ∧ ldL (stM (ld0 m)) (stM (ld0 m) 34 0 5).toNat 34 0 3 ≤ 500 := by
  have r := RK_st (RB_ld0 h)
  have a := ldL_3 (stM (ld0 m) 34 0 5).toNat _ r.1
  have e3 : stM (ld0 m) 34 0 3 = 0 := r.2.2.1
  have b := r.1.1
  rw [e3] at a
  omega
def ldX (m : Mem) : Mem := up3 (cpS (cpP (txM m) 3 0) 4 0) 36 0 0 0
/-- append -/
theorem ap_both (x : Int64) : ∀ (n : Nat) (k : Int) (c d : Mem), c 34 0 5 = d 41 0 9 → c 35 0 = d 48 0 → (∀ j, 0 ≤ j → j < 500 → -128 ≤ c 35 0 j ∧ c 35 0 j < 128) →
    apC x c k n 34 0 5 = apN x d k n 41 0 9 ∧ apC x c k n 35 0 = apN x d k n 48 0 ∧ apC x c k n 34 0 5 = c 34 0 5 + cnR x k n ∧ (∀ j, 0 ≤ j → j < 500 → -128 ≤ apC x c k n 35 0 j ∧ apC x c k n 35 0 j < 128) ∧
    (∀ p i, p ≠ 34 → p ≠ 35 → apC x c k n p i = c p i) ∧ (∀ j : Int, j ≠ 5 → apC x c k n 34 0 j = c 34 0 j) ∧ (∀ p i, p ≠ 41 → p ≠ 48 → apN x d k n p i = d p i) ∧ (∀ j : Int, j ≠ 9 → apN x d k n 41 0 j = d 41 0 j) := by
  intro n
  induction n with
  | zero => intro k c d h1 h2 h3; exact ⟨h1, h2, (Int.add_zero _).symm, h3, fun _ _ _ _ => rfl, fun _ _ => rfl, fun _ _ _ _ => rfl, fun _ _ => rfl⟩
  | succ n ih =>
    intro k c d h1 h2 h3
    unfold apC apN cnR
    by_cases g : bT x k = 0
    · rw [if_pos g, if_pos g, if_pos g]
      have i := ih (k + 1) c d h1 h2 h3
      exact ⟨i.1, i.2.1, by rw [i.2.2.1]; omega, i.2.2.2⟩
    · rw [if_neg g, if_neg g, if_neg g]
      have bb := bT_b x k
      have e5 : up3 (up3 c 35 0 (c 34 0 5) (bT x k)) 34 0 5 (c 34 0 5 + 1) 34 0 5 = c 34 0 5 + 1 := up3_at
      have i := ih (k + 1) (up3 (up3 c 35 0 (c 34 0 5) (bT x k)) 34 0 5 (c 34 0 5 + 1)) (up3 (up3 d 48 0 (d 41 0 9) (bT x k)) 41 0 9 (d 41 0 9 + 1)) (by rw [up3_at, up3_at, h1])
        (by
          funext j
          rw [up3_k (show (35 : Nat) ≠ 34 by decide), up3_k (show (48 : Nat) ≠ 41 by decide), h1]
          by_cases z : j = d 41 0 9
          · rw [z, up3_at, up3_at]
          · rw [up3_off z, up3_off z, h2])
        (fun j j0 j1 => by
          rw [up3_k (by decide)]
          by_cases z : j = c 34 0 5
          · rw [z, up3_at]; exact bb
          · rw [up3_off z]; exact h3 j j0 j1)
      refine ⟨i.1, i.2.1, by rw [i.2.2.1, e5]; omega, i.2.2.2.1, fun p q a b => ?_, fun j a => ?_, fun p q a b => ?_, fun j a => ?_⟩
      · rw [i.2.2.2.2.1 p q a b, up3_k a, up3_k b]
      · rw [i.2.2.2.2.2.1 j a, up3_off a, up3_k (by decide)]
      · rw [i.2.2.2.2.2.2.1 p q a b, up3_k a, up3_k b]
      · rw [i.2.2.2.2.2.2.2 j a, up3_off a, up3_k (by decide)]
