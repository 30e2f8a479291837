theorem sm_zero {f : Int → Int} {n : Nat} (h : ∀ i : Int, 0 ≤ i → i < n → f i = 0) : sm f n = 0 := by
  have := sm_b (f := f) (n := n) (a := 0) (b := 0) (fun i a b => by rw [h i a b]; exact ⟨Int.le_refl _, Int.le_refl _⟩)
  omega
