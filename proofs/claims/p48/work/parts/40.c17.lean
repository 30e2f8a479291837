theorem num_b {m : Mem} {s : Nat} {q t n : Int} (hn : 0 ≤ n ∧ n ≤ 16) : 0 ≤ sm (numC m s q t) n.toNat ∧ sm (numC m s q t) n.toNat ≤ 16 := by
  have h := sm_b (f := numC m s q t) (n := n.toNat) (a := 0) (b := 1) (fun i a b => by unfold numC; split <;> omega)
  omega
theorem addL_at (m : Mem) (s : Nat) (c x t l : Int) : (addL m s c x t 15 s l = if l = m 2 s 0 then c else m 15 s l) ∧ (addL m s c x t 16 s l = if l = m 2 s 0 then x else m 16 s l) ∧ (addL m s c x t 17 s l = if l = m 2 s 0 then 0 else m 17 s l) ∧ (addL m s c x t 18 s l = if l = m 2 s 0 then 0 else m 18 s l) ∧ (addL m s c x t 19 s l = if l = m 2 s 0 then 0 else m 19 s l) ∧ (addL m s c x t 20 s l = if l = m 2 s 0 then 0 else m 20 s l) ∧ (addL m s c x t 21 s l = if l = m 2 s 0 then t else m 21 s l) ∧ addL m s c x t 2 s 0 = m 2 s 0 + 1 := by
  unfold addL
  simp [up3_apply]
theorem addL_k {m : Mem} {s k : Nat} {c x t : Int} (h : k ≠ 2 ∧ ¬ (15 ≤ k ∧ k ≤ 21)) : addL m s c x t k = m k := by
  unfold addL
  funext i j
  simp only [up3_apply]
  repeat rw [if_neg (by omega)]
theorem addL_i {m : Mem} {s k i : Nat} {c x t : Int} (h : i ≠ s) : addL m s c x t k i = m k i := by
  unfold addL
  repeat rw [up3_i h]
theorem BS_addL {m : Mem} {p s : Nat} {c x t : Int} (hP : BP m p) (hB : BS m p s) (hc : 0 ≤ c ∧ c < m 22 p 6) (hx : 1 ≤ x ∧ x ≤ 100000) (ht : 0 ≤ t ∧ t ≤ 11000) (hn : m 2 s 0 < 16) : BP (addL m s c x t) p ∧ BS (addL m s c x t) p s := by
  refine ⟨hP.congr (fun k a b => by rw [addL_k (by omega)]), ?_⟩
  obtain ⟨e15, e16, e17, e18, e19, e20, e21, e2⟩ := addL_at m s c x t 0
  have E := addL_at m s c x t
  have q0 : addL m s c x t 0 = m 0 := addL_k (by omega)
  have q1 : addL m s c x t 1 = m 1 := addL_k (by omega)
  have q3 : addL m s c x t 3 = m 3 := addL_k (by omega)
  have q4 : addL m s c x t 4 = m 4 := addL_k (by omega)
  have q5 : addL m s c x t 5 = m 5 := addL_k (by omega)
  have q6 : addL m s c x t 6 = m 6 := addL_k (by omega)
  have q7 : addL m s c x t 7 = m 7 := addL_k (by omega)
  have q8 : addL m s c x t 8 = m 8 := addL_k (by omega)
  have q10 : addL m s c x t 10 = m 10 := addL_k (by omega)
  have q11 : addL m s c x t 11 = m 11 := addL_k (by omega)
  have q12 : addL m s c x t 12 = m 12 := addL_k (by omega)
  have q13 : addL m s c x t 13 = m 13 := addL_k (by omega)
  have q14 : addL m s c x t 14 = m 14 := addL_k (by omega)
  have q22 : addL m s c x t 22 = m 22 := addL_k (by omega)
  have q23 : addL m s c x t 23 = m 23 := addL_k (by omega)
  have hi0 : intC m p 0 = 0 := by
    have h := intC_b (m := m) (p := p) (x := 0) (by omega) hP.2.1
    omega
  obtain ⟨b1, b2, b3, b4, b5, b6⟩ := hB
  refine ⟨by rw [q0]; exact b1, ?_, ?_, ?_, ⟨by rw [e2]; have := b5.1; omega, fun l a b => ?_⟩, ?_⟩
  · unfold Bq roomC at *; rw [q3, q4, q5, q22, q23]; exact b2
  · unfold Bc at *; rw [q6, q7, q8, q22]; exact b3
  · unfold Bt at *; rw [q1, q11, q12, q13, q14, q22]; exact b4
  · obtain ⟨f15, f16, f17, f18, f19, f20, f21, -⟩ := E l
    rw [e2] at b
    have hI : ∀ z, intC (addL m s c x t) p z = intC m p z := fun z => by unfold intC; rw [q22]
    unfold Bl
    rw [f15, f16, f17, f18, f19, f20, f21, q22]
    simp only [hI]
    by_cases h : l = m 2 s 0
    · simp only [if_pos h, hi0]
      omega
    · simp only [if_neg h]
      exact b5.2 l a (by omega)
  · rw [q10, q22]; exact b6
def nmM (m : Mem) (q : Int) : Int := sm (numC m 1 q 2) (m 1 1 0).toNat
def miN (m : Mem) (q bf k : Int) : Nat → Int
  | 0 => -1
  | n + 1 => if bf < nmM (tkC m 0 1) q then k else miN (tkC m 0 1) q bf (k + 1) n
def miM (m : Mem) (q bf : Int) : Nat → Mem
  | 0 => m
  | n + 1 => if bf < nmM (tkC m 0 1) q then tkC m 0 1 else miM (tkC m 0 1) q bf n
