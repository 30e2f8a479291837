def enR (N : Int → Int) (l : Int) : Nat → Int → Int
  | 0 => N
  | n + 1 => if N (318 + 7 * l + 5) ≤ 2 then enR (tkN N) l n else N
def enC (N : Int → Int) (l : Int) : Nat → Int
  | 0 => 0
  | n + 1 => if N (318 + 7 * l + 5) ≤ 2 then enC (tkN N) l n + 1 else 0
theorem as_up {m : Mem} {N N' : Int → Int} {j z : Int} : sr (up3 (cpX (sr m N) 42 44 0 0 430) 41 0 j z) N' = asX (up3 m 41 0 j z) N N' := by
  unfold asX
  congr 1
  funext k i q
  rw [up3_apply]
  unfold cpX
  by_cases h : k = 41 ∧ i = 0 ∧ q = j
  · rw [if_pos h, if_neg (by omega), h.1, h.2.1, h.2.2, sr_k (by decide), up3_at]
  · rw [if_neg h]
    by_cases h2 : k = 44 ∧ i = 0 ∧ 430 * 0 ≤ q ∧ q < 430 * 0 + 430
    · rw [if_pos h2, if_pos h2, sr_42, sr_42]
    · rw [if_neg h2, if_neg h2]
      by_cases h3 : k = 42
      · subst h3
        unfold sr
        split
        · rfl
        · rw [up3_ne (by omega)]
      · rw [sr_k h3, sr_k h3, up3_apply, if_neg h]
