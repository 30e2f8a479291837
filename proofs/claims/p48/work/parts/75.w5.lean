/-! more of them; acts -/
theorem ite_01 {b : Prop} [Decidable b] : (if b then (1 : Int) else 0) = 0 ∨ (if b then (1 : Int) else 0) = 1 := by split <;> omega
theorem hin_l {m : Mem} {c x : Int} (h : hinC m 0 0 c x = 0) : m 2 0 0 < 16 := by
  unfold hinC at h
  by_cases g : 16 ≤ m 2 0 0
  · exfalso
    split at h
    · omega
    · split at h
      · omega
      · split at h
        · omega
        · first | omega | (rw [if_pos g] at h; omega)
  · omega
theorem safe_q {a b x y : Int} (e1 : a = x) (e2 : b = y) (z : Int) : (if a ≤ b then 1 else 0 : Int) = (if x - z ≤ y - z then 1 else 0 : Int) := by
  subst e1; subst e2
  by_cases g : a ≤ b
  · rw [if_pos g, if_pos (by omega)]
  · rw [if_neg g, if_neg (by omega)]
theorem brF_k {m : Mem} {s k : Nat} {l t : Int} (h : k ≠ 21) : brF m s l t k = m k := by
  unfold brF
  split
  · exact up3_k h
  · rfl
theorem brF_i {m : Mem} {s k i : Nat} {l t : Int} (h : i ≠ s) : brF m s l t k i = m k i := by
  unfold brF
  split
  · exact up3_i h
  · rfl
theorem PN_up {N : Int → Int} {q j z : Int} (hj : j < 14) (h0 : j ≠ 0) (h : PN N q) : PN (upN N j z) q := by
  have h1 := h.1
  unfold PN at h ⊢
  rw [upN_off (by omega), upN_off (by omega), upN_off (by omega), upN_off (by omega)]
  exact h
theorem QN_up {N : Int → Int} {q j z : Int} (hj : j < 14) (h0 : j ≠ 0) (hp : PN N q) (h : QN N q) : QN (upN N j z) q := by
  have h1 := hp.1
  have h2 := quartN_b hp
  have r : roomN (upN N j z) q = roomN N q := roomN_congr (upN_off (by omega)) (upN_off (by omega)) (upN_off (by omega))
  have u : quartN (upN N j z) q = quartN N q := by unfold quartN; rw [r, upN_off (by omega)]
  have e3 : upN N j z (30 + 7 * q + 3) = N (30 + 7 * q + 3) := upN_off (by omega)
  have g := h.1
  have e : weightN (upN N j z) q = weightN N q := by
    unfold weightN
    rw [u, e3]
    by_cases k : N (30 + 7 * q + 3) = -1
    · rw [if_pos k, if_pos k]
    · rw [if_neg k, if_neg k, upN_off (by omega)]
  unfold QN
  rw [e, upN_off (by omega)]
  exact h
section FIN2
variable {m cm : Mem} {K : Nat}
theorem rsC_47 {a : Int} : (up3 (cpS (cpP m (1 + a.toNat) 0) (2 + a.toNat) 0) 36 0 0 0) 47 = m 47 := by rw [up3_k (by decide), cpS_hi (by decide), cpP_hi (by decide)]
end FIN2
