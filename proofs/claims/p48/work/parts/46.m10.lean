def tkNL (N : Int → Int) : Nat → Int → Int
  | 0 => N
  | n + 1 => tkNL (tkN N) n
theorem R_tkL {p s : Nat} : ∀ (n : Nat) (c9 : Mem) (N : Int → Int), BP c9 p → BS c9 p s → RP c9 p N → RS c9 p s N → c9 0 s 0 + n ≤ 11000 → RP (tkL c9 p s n) p (tkNL N n) ∧ RS (tkL c9 p s n) p s (tkNL N n) := by
  intro n
  induction n with
  | zero => intro c9 N hP hB hR hS ht; exact ⟨hR, hS⟩
  | succ n ih =>
    intro c9 N hP hB hR hS ht
    have b := tkC_f hP hB (by omega)
    have r := (R_tk hP hB hR hS).2.2.2.2.2
    exact ih _ _ b.1 b.2 r.1 r.2.1 (by rw [tkC_t]; omega)
def asX (m : Mem) (N N' : Int → Int) : Mem := sr (cpX (sr m N) 42 44 0 0 430) N'
theorem as_sr {m : Mem} {N : Int → Int} : cpX (sr m N) 42 44 0 0 430 = asX m N N := sr_keep (by rw [cpX_k (by decide)]; exact sr_42)
