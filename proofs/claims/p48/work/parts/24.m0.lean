/-! the model's row as a part of the memory -/
def sr (m : Mem) (N : Int → Int) : Mem := fun k i j => if k = 42 ∧ i = 0 then N j else m k i j
theorem sr_up (m : Mem) (N : Int → Int) (j z : Int) : up3 (sr m N) 42 0 j z = sr m (upN N j z) := by
  funext a b c
  unfold up3 sr upN
  by_cases h : a = 42 ∧ b = 0
  · by_cases e : c = j
    · rw [if_pos ⟨h.1, h.2, e⟩, if_pos h, if_pos e]
    · rw [if_neg (fun z => e z.2.2), if_pos h, if_pos h, if_neg e]
  · rw [if_neg (fun z => h ⟨z.1, z.2.1⟩), if_neg h, if_neg h]
theorem sr_m (m : Mem) (N : Int → Int) {k i : Nat} (hk : k ≠ 42) (j z : Int) : up3 (sr m N) k i j z = sr (up3 m k i j z) N := by
  funext a b c
  unfold up3 sr
  by_cases h : a = 42 ∧ b = 0
  · rw [if_neg (fun z => hk (z.1.symm.trans h.1)), if_pos h, if_pos h]
  · rw [if_neg h, if_neg h]
theorem sr_self (m : Mem) : sr m (m 42 0) = m := by
  funext a b c
  unfold sr
  by_cases h : a = 42 ∧ b = 0
  · rw [if_pos h, h.1, h.2]
  · rw [if_neg h]
theorem sr_k {m : Mem} {N : Int → Int} {k i : Nat} (h : k ≠ 42) : sr m N k i = m k i := by
  funext j
  unfold sr
  rw [if_neg (fun z => h z.1)]
theorem sr_sr (m : Mem) (N N' : Int → Int) : sr (sr m N) N' = sr m N' := by
  funext a b c
  unfold sr
  by_cases h : a = 42 ∧ b = 0
  · rw [if_pos h, if_pos h]
  · rw [if_neg h, if_neg h, if_neg h]
section MRw
variable {G : GG} {M : Mth} {R : Room} {lv : List (Nat × Value)} {st : List Value} {m : Mem} {N : Int → Int} {h' : Hp} {c0 s0 : Nat} {res : Res} {pc : Nat}
end MRw
/-- facts of one pack, in the row -/
def PN (N : Int → Int) (q : Int) : Prop := (0 ≤ q ∧ q < 8) ∧ (2 ≤ N (30 + 7 * q + 0) ∧ N (30 + 7 * q + 0) ≤ 100000) ∧ (0 ≤ N (30 + 7 * q + 2) ∧ N (30 + 7 * q + 2) ≤ 1000000000) ∧ (1 ≤ N 0 ∧ N 0 ≤ 10000) ∧ (0 ≤ N (30 + 7 * q + 1) ∧ N (30 + 7 * q + 1) ≤ 1000000)
def QN (N : Int → Int) (q : Int) : Prop := (N (30 + 7 * q + 3) = -1 ∨ 0 ≤ N (30 + 7 * q + 3) ∧ N (30 + 7 * q + 3) < 4) ∧ (0 ≤ weightN N q ∧ weightN N q ≤ 1000)
theorem roomN_b {N : Int → Int} {q : Int} (h : PN N q) : 1 ≤ roomN N q ∧ roomN N q ≤ N (30 + 7 * q + 0) := by
  obtain ⟨h1, h2, h3, h4, h5⟩ := h
  have hd0 : 0 ≤ N (30 + 7 * q + 2) / N 0 := Int.ediv_nonneg (by omega) (by omega)
  unfold roomN
  omega
theorem quartN_b {N : Int → Int} {q : Int} (h : PN N q) : 0 ≤ quartN N q ∧ quartN N q < 4 := by
  have hb := roomN_b h
  obtain ⟨h1, h2, h3, h4, h5⟩ := h
  have hd0 : 0 ≤ 4 * N (30 + 7 * q + 1) / roomN N q := Int.ediv_nonneg (by omega) (by omega)
  unfold quartN
  omega
theorem PN_of {m : Mem} {p s : Nat} {N : Int → Int} {q : Int} (hP : BP m p) (hB : BS m p s) (hR : RP m p N) (hS : RS m p s N) (h0 : 0 ≤ q) (h1 : q < m 22 p 2) : PN N q := by
  have a := BS_pf hP hB h0 h1
  have b := hR.2.1 q h0 h1
  have c := hS.2.1 q h0 h1
  unfold PN
  rw [b.1, c.1, c.2.1, hR.1.1]
  exact a
theorem QN_of {m : Mem} {p s : Nat} {N : Int → Int} {q : Int} (hP : BP m p) (hB : BS m p s) (hR : RP m p N) (hS : RS m p s N) (h0 : 0 ≤ q) (h1 : q < m 22 p 2) : QN N q := by
  have a := BP_qf hP h0 h1
  have b := hR.2.1 q h0 h1
  have qb := quartC_b (BS_pf hP hB h0 h1)
  unfold QN
  rw [b.2, R_weight hP hB hR hS h0 h1]
  exact ⟨a.1, a.2 _ qb.1 qb.2⟩
