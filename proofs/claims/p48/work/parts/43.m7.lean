/-- 430 numbers copied from block a of part k to block b of part k' -/
def cpX (m : Mem) (k k' : Nat) (a b n : Int) : Mem := fun p i j => if p = k' ∧ i = 0 ∧ 430 * b ≤ j ∧ j < 430 * b + n then m k 0 (430 * a + (j - 430 * b)) else m p i j
theorem cpX_0 {m : Mem} {k k' : Nat} {a b : Int} : cpX m k k' a b 0 = m := by
  funext p i j
  unfold cpX
  rw [if_neg (by omega)]
theorem cpX_s {m : Mem} {k k' : Nat} {a b n : Int} (hk : k ≠ k') (hn : 0 ≤ n) : up3 (cpX m k k' a b n) k' 0 (430 * b + n) (cpX m k k' a b n k 0 (430 * a + n)) = cpX m k k' a b (n + 1) := by
  have e : cpX m k k' a b n k 0 (430 * a + n) = m k 0 (430 * a + n) := by
    unfold cpX
    rw [if_neg (fun z => hk z.1)]
  funext p i j
  rw [e, up3_apply]
  unfold cpX
  by_cases h : p = k' ∧ i = 0 ∧ j = 430 * b + n
  · rw [if_pos h, if_pos ⟨h.1, h.2.1, by omega, by omega⟩, h.2.2]
    congr 1
    omega
  · rw [if_neg h]
    by_cases h2 : p = k' ∧ i = 0 ∧ 430 * b ≤ j ∧ j < 430 * b + n
    · rw [if_pos h2, if_pos ⟨h2.1, h2.2.1, by omega, by omega⟩]
    · rw [if_neg h2, if_neg (fun z => h2 ⟨z.1, z.2.1, z.2.2.1, by
        have : j ≠ 430 * b + n := fun e => h ⟨z.1, z.2.1, e⟩
        omega⟩)]
theorem cpX_k {m : Mem} {k k' p : Nat} {a b n : Int} (h : p ≠ k') : cpX m k k' a b n p = m p := by
  funext i j
  unfold cpX
  rw [if_neg (fun z => h z.1)]
/-- the oldest of the past falls out -/
def shX (m : Mem) (n : Int) : Mem := fun p i j => if p = 45 ∧ i = 0 ∧ 0 ≤ j ∧ j < n then m 45 0 (j + 430) else m p i j
theorem shX_0 {m : Mem} : shX m 0 = m := by
  funext p i j
  unfold shX
  rw [if_neg (by omega)]
theorem shX_s {m : Mem} {n : Int} (hn : 0 ≤ n) : up3 (shX m n) 45 0 n (shX m n 45 0 (n + 430)) = shX m (n + 1) := by
  have e : shX m n 45 0 (n + 430) = m 45 0 (n + 430) := by
    unfold shX
    rw [if_neg (by omega)]
  funext p i j
  rw [e, up3_apply]
  unfold shX
  by_cases h : p = 45 ∧ i = 0 ∧ j = n
  · rw [if_pos h, if_pos ⟨h.1, h.2.1, by omega, by omega⟩, h.2.2]
  · rw [if_neg h]
    by_cases h2 : p = 45 ∧ i = 0 ∧ 0 ≤ j ∧ j < n
    · rw [if_pos h2, if_pos ⟨h2.1, h2.2.1, by omega, by omega⟩]
    · rw [if_neg h2, if_neg (fun z => h2 ⟨z.1, z.2.1, z.2.2.1, by
        have : j ≠ n := fun e => h ⟨z.1, z.2.1, e⟩
        omega⟩)]
theorem shX_k {m : Mem} {p : Nat} {n : Int} (h : p ≠ 45) : shX m n p = m p := by
  funext i j
  unfold shX
  rw [if_neg (fun z => h z.1)]
def keX (m : Mem) (pm : Int) : Mem := up3 (cpX m 42 45 0 pm 430) 41 0 6 (pm + 1)
def keM (m : Mem) : Mem := if m 41 0 6 = 8 then keX (up3 (shX m 3010) 41 0 6 7) 7 else keX m (m 41 0 6)
