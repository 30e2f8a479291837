def tkNL (N : Int → Int) : Nat → Int → Int
  | 0 => N
  | n + 1 => tkNL (tkN N) n
theorem R_tkL {p s : Nat} : ∀ (n : Nat) (c9 : Mem) (N : Int → Int), BP c9 p → BS c9 p s → RP c9 p N → RS c9 p s N → c9 0 s 0 + n ≤ 11000 → RP (tkL c9 p s n) p (tkNL N n) ∧ RS (tkL c9 p s n) p s (tkNL N n) := by
  intro n
  induction n with
  | zero => intro c9 N hP hB hR hS ht; exact ⟨hR, hS⟩
  | succ n ih =>
    intro c9 N hP hB hR hS ht
    have b := tkC_f hP hB (by omega)
    have r := (R_tk hP hB hR hS).2.2.2.2.2
    exact ih _ _ b.1 b.2 r.1 r.2.1 (by rw [tkC_t]; omega)
def asX (m : Mem) (N N' : Int → Int) : Mem := sr (cpX (sr m N) 42 44 0 0 430) N'
theorem as_sr {m : Mem} {N : Int → Int} : cpX (sr m N) 42 44 0 0 430 = asX m N N := sr_keep (by rw [cpX_k (by decide)]; exact sr_42)
theorem as_back {m : Mem} {N N' : Int → Int} : meq (cpX (asX m N N') 44 42 0 0 430) (asX m N N) := by
  intro k i hk hi j hj
  by_cases h : k = 42
  · subst h
    have hi0 : i = 0 := by
      have : cntP 42 = 1 := by decide
      omega
    subst hi0
    have hj2 : j < 430 := by
      have h2 : rel 42 j = decide (j < 430) := rfl
      rw [h2] at hj
      exact of_decide_eq_true hj
    have e1 : asX m N N 42 0 (j : Int) = N j := by unfold asX; rw [sr_42]
    have e2 : cpX (asX m N N') 44 42 0 0 430 42 0 (j : Int) = asX m N N' 44 0 (j : Int) := by
      unfold cpX
      rw [if_pos ⟨rfl, rfl, by omega, by omega⟩]
      congr 1
      omega
    have e3 : asX m N N' 44 0 (j : Int) = N j := by
      unfold asX
      rw [sr_k (by decide)]
      unfold cpX
      rw [if_pos ⟨rfl, rfl, by omega, by omega⟩, show (430 * 0 + ((j : Int) - 430 * 0)) = j by omega, sr_42]
    rw [e1, e2, e3]
  · rw [cpX_k h]
    unfold asX
    rw [sr_k h, sr_k h]
