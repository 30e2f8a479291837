/-! the first memory -/
def m00 : Mem := fun _ _ _ => 0
def m28 : Mem := bgN (up3 (pkM m00) 41 0 17 (-1))
theorem m28_z {k i : Nat} {j : Int} (h1 : k ≠ 22) (h2 : k ≠ 27) (h3 : k ≠ 41) (h4 : k ≠ 42) : m28 k i j = 0 := by
  unfold m28 bgN pkM plM up3 fiN m00
  simp only [h1, h2, h3, h4, false_and, if_false]
theorem IV_0 : IV m28 0 := by
  have z : ∀ k i : Nat, k ≠ 22 → k ≠ 27 → k ≠ 41 → k ≠ 42 → m28 k i = fun _ => 0 := fun k i a b c d => funext fun j => m28_z a b c d
  have c0 : m28 22 0 0 = 100 := by decide +kernel
  have c1 : m28 22 0 1 = 100 := by decide +kernel
  have c2 : m28 22 0 2 = 0 := by decide +kernel
  have c3 : m28 22 0 3 = 0 := by decide +kernel
  have c4 : m28 22 0 4 = 0 := by decide +kernel
  have c5 : m28 22 0 5 = 0 := by decide +kernel
  have c6 : m28 22 0 6 = 0 := by decide +kernel
  have r0 : m28 42 0 0 = 100 := by decide +kernel
  have r1 : m28 42 0 1 = 100 := by decide +kernel
  have r2 : m28 42 0 2 = 0 := by decide +kernel
  have r3 : m28 42 0 3 = 0 := by decide +kernel
  have r4 : m28 42 0 4 = 0 := by decide +kernel
  have r5 : m28 42 0 5 = 0 := by decide +kernel
  have r6 : m28 42 0 6 = 0 := by decide +kernel
  have r7 : m28 42 0 7 = 0 := by decide +kernel
  have r8 : m28 42 0 8 = 0 := by decide +kernel
  have r9 : m28 42 0 9 = 0 := by decide +kernel
  have r10 : m28 42 0 10 = 0 := by decide +kernel
  have r11 : m28 42 0 11 = 0 := by decide +kernel
  have r12 : m28 42 0 12 = 0 := by decide +kernel
  have r13 : m28 42 0 13 = 0 := by decide +kernel
  have z0 := z 0 0 (by decide) (by decide) (by decide) (by decide)
  have z1 := z 1 0 (by decide) (by decide) (by decide) (by decide)
  have z2 := z 2 0 (by decide) (by decide) (by decide) (by decide)
  have z34 := z 34 0 (by decide) (by decide) (by decide) (by decide)
  have z35 := z 35 0 (by decide) (by decide) (by decide) (by decide)
  have z36 := z 36 0 (by decide) (by decide) (by decide) (by decide)
  have z40 := z 40 0 (by decide) (by decide) (by decide) (by decide)
  have z47 := z 47 0 (by decide) (by decide) (by decide) (by decide)
  have z48 := z 48 0 (by decide) (by decide) (by decide) (by decide)
  have g6 : m28 41 0 6 = 0 := by decide +kernel
  have g9 : m28 41 0 9 = 0 := by decide +kernel
  have g11 : m28 41 0 11 = 0 := by decide +kernel
  have g15 : m28 41 0 15 = 0 := by decide +kernel
  have g16 : m28 41 0 16 = 0 := by decide +kernel
  have g17 : m28 41 0 17 = -1 := by decide +kernel
  refine ⟨⟨?_, ?_, ?_, ?_, ?_, ?_, ?_, ?_⟩, ?_, ?_, ?_, ?_⟩
  · unfold BP
    rw [c0, c1, c2, c3, c4, c5, c6]
    refine ⟨by decide, by decide, by decide, by decide, by decide, by decide, by decide, ?_, ?_, ?_, ?_, ?_⟩
    · intro q h0 h1; omega
    · intro f h0 h1; omega
    · intro q h h0 h1; omega
    · intro a b h0 h1; omega
    · intro c h0 h1; omega
  · unfold BS
    rw [c2, c5, c6, z0, z1, z2]
    refine ⟨by decide, ?_, ?_, ⟨by decide, ?_⟩, ⟨by decide, ?_⟩, ?_⟩
    · intro q h0 h1; omega
    · intro q h0 h1; omega
    · intro q h0 h1; dsimp only at h1; omega
    · intro q h0 h1; dsimp only at h1; omega
    · intro q h0 h1; omega
  · unfold RP SU
    rw [c0, c1, c2, c3, c4, c5, c6, r0, r1, r3, r4, r5, r6, r8]
    refine ⟨by decide, ?_, ?_, ?_, ?_, ?_, by decide, by decide, ?_, ?_⟩
    · intro q h0 h1; omega
    · intro f h0 h1; omega
    · intro q h h0 h1; omega
    · intro a b h0 h1; omega
    · intro c h0 h1; omega
    · intro c h0 h1; omega
    · intro c h0 h1; omega
  · unfold RS R1 R2 R3 R4 R5 R6 R7
    rw [c2, c5, c6, r2, r7, r9, r10, r11, r12, r13, z0, z1, z2]
    refine ⟨⟨rfl, rfl, rfl, rfl, rfl, rfl, rfl⟩, ?_, ?_, ?_, ?_, ?_, ?_⟩
    · intro q h0 h1; omega
    · intro q h0 h1; omega
    · intro q h0 h1; omega
    · intro q h0 h1; dsimp only at h1; omega
    · intro q h0 h1; omega
    · intro q h0 h1; dsimp only at h1; omega
  · unfold R8
    rw [c5]
    intro c h0 h1; omega
  · unfold CE
    rw [c2, c5, z0]
    refine ⟨rfl, by decide, by decide, ?_⟩
    intro c h0 h1; omega
  · rw [z0]; decide
  · rw [z0]; decide
  · unfold IVh
    rw [z36, g6]; decide
  · intro t h0 h1
    rw [z36] at h1; dsimp only at h1; omega
  · intro i hi
    rw [z40, z47]
    exact ⟨rfl, .inl rfl⟩
  · unfold IVt RW MW
    rw [z34, z35, z48, g9, g11, g15, g16, g17]
    refine ⟨⟨by decide, ?_, by decide⟩, ⟨by decide, ?_, by decide, by decide⟩, rfl, rfl, rfl, rfl, by decide⟩
    · intro j _ _; dsimp only; omega
    · intro j _ _; dsimp only; omega
