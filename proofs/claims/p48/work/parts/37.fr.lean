/-! ticks change one instance only -/
theorem up3_i {m : Mem} {k i k' i' : Nat} {j z : Int} (h : i' ≠ i) : up3 m k i j z k' i' = m k' i' := up3_ne (fun q => h q.2)
theorem carryC_i {m : Mem} {s k i : Nat} {c x : Int} (h : i ≠ s) : carryC m s c x k i = m k i := by unfold carryC; rw [up3_i h, up3_i h]
theorem shStep_i {m : Mem} {p s k i : Nat} {hr q : Int} (h : i ≠ s) : shStep m p s hr q k i = m k i := by
  unfold shStep
  split
  · rw [getC_i h, up3_i h]
  · rfl
theorem shL_i {p s k i : Nat} {hr : Int} (h : i ≠ s) : ∀ (n : Nat) (m : Mem) (q : Int), shL m p s hr q n k i = m k i := by
  intro n
  induction n with
  | zero => intro m q; rfl
  | succ n ih => intro m q; show shL (shStep m p s hr q) p s hr (q + 1) n k i = _; rw [ih, shStep_i h]
theorem trStep_i {m : Mem} {p s k i : Nat} {t : Int} (h : i ≠ s) : trStep m p s t k i = m k i := by
  unfold trStep
  split
  · split
    · rw [giveC_i h, up3_i h, up3_i h]
    · rw [up3_i h]
  · rfl
theorem trL_i {p s k i : Nat} (h : i ≠ s) : ∀ (n : Nat) (m : Mem) (t : Int), trL m p s t n k i = m k i := by
  intro n
  induction n with
  | zero => intro m q; rfl
  | succ n ih => intro m q; show trL (trStep m p s q) p s (q + 1) n k i = _; rw [ih, trStep_i h]
theorem so5_i {m : Mem} {p s k i : Nat} {l : Int} (h : i ≠ s) : so5 m p s l k i = m k i := by
  unfold so5 so4 so3 so2 so1
  rw [up3_i h, getC_i h, carryC_i h, up3_i h, giveC_i h]
theorem soC_i {m : Mem} {p s k i : Nat} {l : Int} (h : i ≠ s) : soC m p s l k i = m k i := by
  unfold soC
  split
  · rw [up3_i h, so5_i h]
  · exact so5_i h
theorem sb4_i {m : Mem} {p s k i : Nat} {l : Int} (h : i ≠ s) : sb4 m p s l k i = m k i := by
  unfold sb4 sb3 sb2 sb1
  rw [up3_i h, getC_i h, carryC_i h, giveC_i h]
theorem sbC_i {m : Mem} {p s k i : Nat} {l : Int} (h : i ≠ s) : sbC m p s l k i = m k i := by
  unfold sbC
  split
  · rw [up3_i h, sb4_i h]
  · split
    · rw [up3_i h, up3_i h, sb4_i h]
    · exact sb4_i h
theorem lnA_i {m : Mem} {s k i : Nat} {l : Int} (h : i ≠ s) : lnA m s l k i = m k i := by
  unfold lnA
  split
  · rw [up3_i h]
  · rfl
theorem lnStep_i {m : Mem} {p s k i : Nat} {l : Int} (h : i ≠ s) : lnStep m p s l k i = m k i := by
  unfold lnStep
  split
  · rw [soC_i h, lnA_i h]
  · split
    · rw [sbC_i h, lnA_i h]
    · exact lnA_i h
theorem lnL_i {p s k i : Nat} (h : i ≠ s) : ∀ (n : Nat) (m : Mem) (l : Int), lnL m p s l n k i = m k i := by
  intro n
  induction n with
  | zero => intro m q; rfl
  | succ n ih => intro m q; show lnL (lnStep m p s q) p s (q + 1) n k i = _; rw [ih, lnStep_i h]
theorem tkC_i {m : Mem} {p s k i : Nat} (h : i ≠ s) : tkC m p s k i = m k i := by
  unfold tkC tk3 tk2 tk1 tk0
  rw [up3_i h, lnL_i h, trL_i h, shL_i h]
  funext j
  unfold fiA
  rw [if_neg (fun z => h z.2)]
theorem tkL_i {p s k i : Nat} (h : i ≠ s) : ∀ (n : Nat) (m : Mem), tkL m p s n k i = m k i := by
  intro n
  induction n with
  | zero => intro m; rfl
  | succ n ih => intro m; show tkL (tkC m p s) p s n k i = _; rw [ih, tkC_i h]
theorem teM_i {p s k i : Nat} {l : Int} (h : i ≠ s) : ∀ (n : Nat) (m : Mem), teM m p s l n k i = m k i := by
  intro n
  induction n with
  | zero => intro m; rfl
  | succ n ih =>
    intro m
    show (if m 20 s l ≤ 2 then teM (tkC m p s) p s l n else m) k i = _
    split
    · rw [ih, tkC_i h]
    · rfl
theorem tkL_k {p s k : Nat} (h : k = 1 ∨ k = 2 ∨ k = 5 ∨ k = 6 ∨ k = 7 ∨ 11 ≤ k ∧ k ≤ 13 ∨ 15 ≤ k ∧ k ≤ 16 ∨ 21 ≤ k) : ∀ (n : Nat) (m : Mem), tkL m p s n k = m k := by
  intro n
  induction n with
  | zero => intro m; rfl
  | succ n ih => intro m; show tkL (tkC m p s) p s n k = _; rw [ih, tkC_k h]
theorem teM_k {p s k : Nat} {l : Int} (h : k = 1 ∨ k = 2 ∨ k = 5 ∨ k = 6 ∨ k = 7 ∨ 11 ≤ k ∧ k ≤ 13 ∨ 15 ≤ k ∧ k ≤ 16 ∨ 21 ≤ k) : ∀ (n : Nat) (m : Mem), teM m p s l n k = m k := by
  intro n
  induction n with
  | zero => intro m; rfl
  | succ n ih =>
    intro m
    show (if m 20 s l ≤ 2 then teM (tkC m p s) p s l n else m) k = _
    split
    · rw [ih, tkC_k h]
    · rfl
theorem tkL_t {p s : Nat} : ∀ (n : Nat) (m : Mem), tkL m p s n 0 s 0 = m 0 s 0 + n := by
  intro n
  induction n with
  | zero => intro m; show m 0 s 0 = _; omega
  | succ n ih => intro m; show tkL (tkC m p s) p s n 0 s 0 = _; rw [ih, tkC_t]; omega
theorem teN_b {p s : Nat} {l : Int} : ∀ (n : Nat) (m : Mem), 0 ≤ teN m p s l n ∧ teN m p s l n ≤ n := by
  intro n
  induction n with
  | zero => intro m; show (0 : Int) ≤ 0 ∧ (0 : Int) ≤ 0; omega
  | succ n ih =>
    intro m
    show 0 ≤ (if m 20 s l ≤ 2 then teN (tkC m p s) p s l n + 1 else 0) ∧ (if m 20 s l ≤ 2 then teN (tkC m p s) p s l n + 1 else 0) ≤ _
    have := ih (tkC m p s)
    split <;> omega
