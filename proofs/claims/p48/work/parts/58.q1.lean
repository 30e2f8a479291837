/-! the two readers side by side: numbers, words -/
theorem scF_0 (T : Int → Int) (p : Int → Bool) (n : Nat) (a : Int) : scF T p n a = a ↔ (n = 0 ∨ p (T a) ≠ true) := by
  cases n with
  | zero => exact ⟨fun _ => .inl rfl, fun _ => rfl⟩
  | succ n =>
    show (if _ then _ else _) = a ↔ _
    have b := scF_b T p n (a + 1)
    by_cases h : p (T a) = true
    · rw [if_pos h]
      constructor
      · intro z; omega
      · rintro (z | z)
        · omega
        · exact absurd h z
    · rw [if_neg h]
      exact ⟨fun _ => .inr h, fun _ => rfl⟩
theorem scF_st (T : Int → Int) (p : Int → Bool) : ∀ (n : Nat) (a : Int), scF T p n a < a + n → p (T (scF T p n a)) ≠ true := by
  intro n
  induction n with
  | zero => intro a h; have e : scF T p 0 a = a := rfl; rw [e] at h; omega
  | succ n ih =>
    intro a
    show (if _ then _ else _) < _ → p (T (if _ then _ else _)) ≠ true
    by_cases h : p (T a) = true
    · rw [if_pos h]; intro z; exact ih _ (by omega)
    · rw [if_neg h]; intro _; exact h
/-- the readers' relation -/
def RdE (c m : Mem) : Prop := c 34 0 1 = m 41 0 12 ∧ (c 34 0 1 = 0 → c 34 0 6 = m 41 0 10) ∧ (c 34 0 1 ≠ 0 → c 34 0 2 = m 41 0 13)
def Rd (c m : Mem) : Prop := c 35 0 = m 48 0 ∧ c 34 0 5 = m 41 0 9 ∧ c 34 0 3 = m 41 0 14 ∧ RdE c m
theorem Rd.k {c c' m m' : Mem} (h : Rd c m) (e1 : c' 34 = c 34) (e2 : c' 35 = c 35) (e3 : m' 41 = m 41) (e4 : m' 48 = m 48) : Rd c' m' := by unfold Rd RdE; rw [e1, e2, e3, e4]; exact h
theorem Rd_c7 {c m : Mem} {a : Int} (h : Rd c m) : Rd (up3 c 34 0 7 a) m := h
theorem Rd_m11 {c m : Mem} {a : Int} (h : Rd c m) : Rd c (up3 m 41 0 11 a) := h
theorem Rd_m15 {c m : Mem} {a : Int} (h : Rd c m) : Rd c (up3 m 41 0 15 a) := h
