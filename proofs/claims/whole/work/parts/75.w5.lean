/-! more of them; acts -/
theorem ite_01 {b : Prop} [Decidable b] : (if b then (1 : Int) else 0) = 0 ∨ (if b then (1 : Int) else 0) = 1 := by split <;> omega
theorem hin_l {m : Mem} {c x : Int} (h : hinC m 0 0 c x = 0) : m 2 0 0 < 16 := by
  unfold hinC at h
  by_cases g : 16 ≤ m 2 0 0
  · exfalso
    split at h
    · omega
    · split at h
      · omega
      · split at h
        · omega
        · first | omega | (rw [if_pos g] at h; omega)
  · omega
theorem safe_q {a b x y : Int} (e1 : a = x) (e2 : b = y) (z : Int) : (if a ≤ b then 1 else 0 : Int) = (if x - z ≤ y - z then 1 else 0 : Int) := by
  subst e1; subst e2
  by_cases g : a ≤ b
  · rw [if_pos g, if_pos (by omega)]
  · rw [if_neg g, if_neg (by omega)]
theorem brF_k {m : Mem} {s k : Nat} {l t : Int} (h : k ≠ 21) : brF m s l t k = m k := by
  unfold brF
  split
  · exact up3_k h
  · rfl
theorem brF_i {m : Mem} {s k i : Nat} {l t : Int} (h : i ≠ s) : brF m s l t k i = m k i := by
  unfold brF
  split
  · exact up3_i h
  · rfl
theorem PN_up {N : Int → Int} {q j z : Int} (hj : j < 14) (h0 : j ≠ 0) (h : PN N q) : PN (upN N j z) q := by
  have h1 := h.1
  unfold PN at h ⊢
  rw [upN_off (by omega), upN_off (by omega), upN_off (by omega), upN_off (by omega)]
  exact h
theorem QN_up {N : Int → Int} {q j z : Int} (hj : j < 14) (h0 : j ≠ 0) (hp : PN N q) (h : QN N q) : QN (upN N j z) q := by
  have h1 := hp.1
  have h2 := quartN_b hp
  have r : roomN (upN N j z) q = roomN N q := roomN_congr (upN_off (by omega)) (upN_off (by omega)) (upN_off (by omega))
  have u : quartN (upN N j z) q = quartN N q := by unfold quartN; rw [r, upN_off (by omega)]
  have e3 : upN N j z (30 + 7 * q + 3) = N (30 + 7 * q + 3) := upN_off (by omega)
  have g := h.1
  have e : weightN (upN N j z) q = weightN N q := by
    unfold weightN
    rw [u, e3]
    by_cases k : N (30 + 7 * q + 3) = -1
    · rw [if_pos k, if_pos k]
    · rw [if_neg k, if_neg k, upN_off (by omega)]
  unfold QN
  rw [e, upN_off (by omega)]
  exact h
section FIN2
variable {m cm : Mem} {K : Nat}
theorem fin_v {a : Int} (h : IV m K) (h0 : 0 ≤ a ∧ a ≤ 1) (r : Int) : sr (up3 (up3 (cpS (cpP m 0 (1 + a.toNat)) 0 (2 + a.toNat)) 40 0 a 1) 49 0 0 r) (m 42 0) = up3 (up3 (cpS (cpP m 0 (1 + a.toNat)) 0 (2 + a.toNat)) 40 0 a 1) 49 0 0 r ∧ sr (up3 (cpX (sr (thr (up3 (up3 (cpS (cpP m 0 (1 + a.toNat)) 0 (2 + a.toNat)) 40 0 a 1) 49 0 0 r) 0) (m 42 0)) 42 46 0 a 430) 47 0 a 1) (m 42 0) 49 0 0 = r ∧ sr (up3 (cpX (sr (thr (up3 (up3 (cpS (cpP m 0 (1 + a.toNat)) 0 (2 + a.toNat)) 40 0 a 1) 49 0 0 r) 0) (m 42 0)) 42 46 0 a 430) 47 0 a 1) (m 42 0) 41 0 7 = 0 ∧ IV (sr (up3 (cpX (sr (thr (up3 (up3 (cpS (cpP m 0 (1 + a.toNat)) 0 (2 + a.toNat)) 40 0 a 1) 49 0 0 r) 0) (m 42 0)) 42 46 0 a 430) 47 0 a 1) (m 42 0)) (K + 1) := by
  have e : (up3 (up3 (cpS (cpP m 0 (1 + a.toNat)) 0 (2 + a.toNat)) 40 0 a 1) 49 0 0 r) 42 0 = m 42 0 := by rw [up3_k (by decide), up3_k (by decide), cpS_hi (by decide), cpP_hi (by decide)]
  have t := h.save (c1 := up3 (svC m a) 49 0 0 r) h0 Kp_out rfl
  have e' : (up3 (svC m a) 49 0 0 r) 42 0 = m 42 0 := e
  rw [e'] at t
  refine ⟨sr_of e, ?_, ?_, t.more (by omega)⟩
  · rw [sr_k (by decide), up3_k (by decide), cpX_q (by decide), sr_k (by decide)]
    unfold thr
    rw [up3_k (by decide), up3_at]
  · rw [sr_k (by decide), up3_k (by decide), cpX_q (by decide), sr_k (by decide)]
    unfold thr
    rw [up3_at]
theorem rsC_47 {a : Int} : (up3 (cpS (cpP m (1 + a.toNat) 0) (2 + a.toNat) 0) 36 0 0 0) 47 = m 47 := by rw [up3_k (by decide), cpS_hi (by decide), cpP_hi (by decide)]
theorem fin_u {a : Int} (h : IV m K) (h0 : 0 ≤ a ∧ a ≤ 1) (hz : ¬ m 40 0 a = 0) (r : Int) (C : Mem) (hC : C = up3 (up3 (cpS (cpP m (1 + a.toNat) 0) (2 + a.toNat) 0) 36 0 0 0) 49 0 0 r) : sr C (m 42 0) = C ∧ sr (up3 (cpX (sr (thr C 0) (m 42 0)) 46 42 a 0 430) 41 0 6 0) ((cpX (sr (thr C 0) (m 42 0)) 46 42 a 0 430) 42 0) 49 0 0 = r ∧ sr (up3 (cpX (sr (thr C 0) (m 42 0)) 46 42 a 0 430) 41 0 6 0) ((cpX (sr (thr C 0) (m 42 0)) 46 42 a 0 430) 42 0) 41 0 7 = 0 ∧ IV (sr (up3 (cpX (sr (thr C 0) (m 42 0)) 46 42 a 0 430) 41 0 6 0) ((cpX (sr (thr C 0) (m 42 0)) 46 42 a 0 430) 42 0)) (K + 1) ∧ (cpX (sr (thr C 0) (m 42 0)) 46 42 a 0 430) 42 0 2 = m 0 (2 + a.toNat) 0 := by
  have e : C 42 0 = m 42 0 := by rw [hC, up3_k (by decide), up3_k (by decide), cpS_hi (by decide), cpP_hi (by decide)]
  have t := h.rest (s := a) (c1 := C) h0 hz (by rw [hC]; exact Kp_out) rfl
  rw [e] at t
  refine ⟨sr_of e, ?_, ?_, t.more (by omega), ?_⟩
  · rw [sr_k (by decide), up3_k (by decide), cpX_q (by decide), sr_k (by decide)]
    unfold thr
    rw [up3_k (by decide), hC, up3_at]
  · rw [sr_k (by decide), up3_off (by decide), cpX_q (by decide), sr_k (by decide)]
    unfold thr
    rw [up3_at]
  · have q := h.2.2.2.1 a.toNat (by omega)
    have es : ((a.toNat : Nat) : Int) = a := by omega
    rw [es] at q
    rcases q.2 with z | z
    · exact absurd z hz
    · have k : rw46 m a 2 = m 0 (2 + a.toNat) 0 := z.2.2.2.2.1.1.1
      rw [← k]
      unfold cpX rw46
      rw [if_pos ⟨rfl, rfl, by omega, by omega⟩, sr_k (by decide)]
      unfold thr
      rw [up3_k (by decide), hC, up3_k (by decide), up3_k (by decide), cpS_hi (by decide), cpP_hi (by decide)]
      congr 1
end FIN2
theorem pr_lacks {G : GG} {m : Mem} {K : Nat} (h : IV m K) (hK : K ≤ 600) {a0 : Int} (ha0 : inI a0) : PO G ML_lacks ML_lacks_h MX8_lacks [.int (iI a0)] m K := by
  have hP := h.1.1
  have hB := h.1.2.1
  have hR := h.1.2.2.1
  have hS := h.1.2.2.2.1
  have h8 := h.1.2.2.2.2.1
  have hT := h.1.2.2.2.2.2.2.1
  have hh0 := h.2.1.1
  have hh1 := h.2.1.2.1
  have hm6 := h.2.1.2.2
  have hF := h.nf
  have E2 : m 42 0 2 = m 0 0 0 := hS.1.1
  have E3 : m 42 0 3 = m 22 0 2 := hR.1.2.2.1
  have E7 : m 42 0 7 = m 1 0 0 := hS.1.2.2.2.2.2.1
  have E8 : m 42 0 8 = m 22 0 6 := hR.1.2.2.2.2.2.2
  have E9 : m 42 0 9 = m 2 0 0 := hS.1.2.2.2.2.2.2
  have n8 := hP.2.2.1
  have n12 := hP.2.2.2.2.2.1
  have nc := hP.2.2.2.2.2.2.1
  have nt := hB.2.2.2.1.1
  have nl := hB.2.2.2.2.1.1
  have t0 := hB.1
  by_cases h0 : 0 ≤ a0 ∧ a0 < m 1 0 0
  · have kt := hS.2.2.2.2.1 a0 h0.1 h0.2
    have bt := hB.2.2.2.1.2 a0 h0.1 h0.2
    have b12 := bt.2.1
    have b14 := bt.2.2.2
    by_cases hz : m 14 0 a0 ≠ 0 ∨ 500 ≤ (m 12 0 a0 - m 0 0 0)
    · have fn := fin_r (cm := (m)) h (Kp.r m) (nrI (-1))
      refine .inl ⟨_, (nrI (-1)), (up3 (m) 49 0 0 (nrI (-1))), _, .inl rfl, inI_nr _, hq_lacks (inI_nr _) (Ct.vi (P_lacks0 hP hB hT hh0 hh1 ha0 (by omega) (hz)) (iI_nr _).symm), Ct.vi (Ct.at (Q_lacks0 (m := (up3 (m) 49 0 0 (nrI (-1)))) hF ha0 (by omega) (by rw [kt.2.2.2]; unfold inI; omega) (by rw [kt.2.1, E2]; unfold inI; omega) (by rw [kt.2.2.2, kt.2.1, E2]; exact hz)) fn.1) (iI_nr _).symm, fn.2.1, fn.2.2.1, fn.2.2.2⟩
    · have vl := V_lacks h.1 h0.1 h0.2 (by omega) _ rfl
      have v1 := vl.2.2.2.1
      have v2 := vl.2.2.2.2.1
      have v3 := vl.2.2.2.2.2
      have fn := fin_s (cm := (trL (shL (tkL (cpS m 0 1) 0 1 (m 12 0 a0 - m 0 0 0).toNat) 0 1 ((tkL (cpS m 0 1) 0 1 (m 12 0 a0 - m 0 0 0).toNat) 0 1 0 % 24) 0 (m 22 0 2).toNat) 0 1 0 a0.toNat)) h (Kp_cpS.t (Kp_tkL.t (Kp_shL.t Kp_trL))) (nrI (max 0 ((trL (shL (tkL (cpS m 0 1) 0 1 (m 12 0 a0 - m 0 0 0).toNat) 0 1 ((tkL (cpS m 0 1) 0 1 (m 12 0 a0 - m 0 0 0).toNat) 0 1 0 % 24) 0 (m 22 0 2).toNat) 0 1 0 a0.toNat) 13 0 a0 - (trL (shL (tkL (cpS m 0 1) 0 1 (m 12 0 a0 - m 0 0 0).toNat) 0 1 ((tkL (cpS m 0 1) 0 1 (m 12 0 a0 - m 0 0 0).toNat) 0 1 0 % 24) 0 (m 22 0 2).toNat) 0 1 0 a0.toNat) 3 1 (m 11 0 a0))))
      refine .inl ⟨_, (nrI (max 0 ((trL (shL (tkL (cpS m 0 1) 0 1 (m 12 0 a0 - m 0 0 0).toNat) 0 1 ((tkL (cpS m 0 1) 0 1 (m 12 0 a0 - m 0 0 0).toNat) 0 1 0 % 24) 0 (m 22 0 2).toNat) 0 1 0 a0.toNat) 13 0 a0 - (trL (shL (tkL (cpS m 0 1) 0 1 (m 12 0 a0 - m 0 0 0).toNat) 0 1 ((tkL (cpS m 0 1) 0 1 (m 12 0 a0 - m 0 0 0).toNat) 0 1 0 % 24) 0 (m 22 0 2).toNat) 0 1 0 a0.toNat) 3 1 (m 11 0 a0)))), (up3 (trL (shL (tkL (cpS m 0 1) 0 1 (m 12 0 a0 - m 0 0 0).toNat) 0 1 ((tkL (cpS m 0 1) 0 1 (m 12 0 a0 - m 0 0 0).toNat) 0 1 0 % 24) 0 (m 22 0 2).toNat) 0 1 0 a0.toNat) 49 0 0 (nrI (max 0 ((trL (shL (tkL (cpS m 0 1) 0 1 (m 12 0 a0 - m 0 0 0).toNat) 0 1 ((tkL (cpS m 0 1) 0 1 (m 12 0 a0 - m 0 0 0).toNat) 0 1 0 % 24) 0 (m 22 0 2).toNat) 0 1 0 a0.toNat) 13 0 a0 - (trL (shL (tkL (cpS m 0 1) 0 1 (m 12 0 a0 - m 0 0 0).toNat) 0 1 ((tkL (cpS m 0 1) 0 1 (m 12 0 a0 - m 0 0 0).toNat) 0 1 0 % 24) 0 (m 22 0 2).toNat) 0 1 0 a0.toNat) 3 1 (m 11 0 a0))))), _, .inl rfl, inI_nr _, hq_lacks (inI_nr _) (Ct.vi (P_lacks1 hP hB hT hh0 hh1 ha0 (by omega) (by omega) (by omega) (by unfold inI; omega)) (iI_nr _).symm), Ct.vi (Ct.at (Q_lacks1 (m := (up3 (trL (shL (tkL (cpS m 0 1) 0 1 (m 12 0 a0 - m 0 0 0).toNat) 0 1 ((tkL (cpS m 0 1) 0 1 (m 12 0 a0 - m 0 0 0).toNat) 0 1 0 % 24) 0 (m 22 0 2).toNat) 0 1 0 a0.toNat) 49 0 0 (nrI (max 0 ((trL (shL (tkL (cpS m 0 1) 0 1 (m 12 0 a0 - m 0 0 0).toNat) 0 1 ((tkL (cpS m 0 1) 0 1 (m 12 0 a0 - m 0 0 0).toNat) 0 1 0 % 24) 0 (m 22 0 2).toNat) 0 1 0 a0.toNat) 13 0 a0 - (trL (shL (tkL (cpS m 0 1) 0 1 (m 12 0 a0 - m 0 0 0).toNat) 0 1 ((tkL (cpS m 0 1) 0 1 (m 12 0 a0 - m 0 0 0).toNat) 0 1 0 % 24) 0 (m 22 0 2).toNat) 0 1 0 a0.toNat) 3 1 (m 11 0 a0)))))) hF ha0 (by omega) hP hB hR hS hT (h0.2) (by rw [kt.2.2.2]; omega) (by rw [kt.2.1, E2]; omega) (by rw [← vl.2.2.1, ← vl.1, ← vl.2.1]; unfold inI; omega)) fn.1) (by rw [iI_nr]; exact congrArg iI (Eq.symm ((by rw [vl.1, vl.2.2.1])))), fn.2.1, fn.2.2.1, fn.2.2.2⟩
  · refine .inr ⟨_, 1, sr (thr m 1) (m 42 0), .inl rfl, by decide, hq_lacks_ioE (Px_lacks_0 hP hB hT hh0 hh1 ha0 (by omega)), ?_, (fin_x h 1).1, (fin_x h 1).2⟩
    exact Ct.at (Qx_lacks_0 (m := m) hF ha0 (by omega)) (sr_self m)
theorem pr_isSafe {G : GG} {m : Mem} {K : Nat} (h : IV m K) (hK : K ≤ 600) {a0 a1 a2 : Int} (ha0 : inI a0) (ha1 : inI a1) (ha2 : inI a2) : POB G ML_isSafe ML_isSafe_h MX8_isSafe [.int (iI a0), .int (iI a1), .int (iI a2)] m K := by
  have hP := h.1.1
  have hB := h.1.2.1
  have hR := h.1.2.2.1
  have hS := h.1.2.2.2.1
  have h8 := h.1.2.2.2.2.1
  have hT := h.1.2.2.2.2.2.2.1
  have hh0 := h.2.1.1
  have hh1 := h.2.1.2.1
  have hm6 := h.2.1.2.2
  have hF := h.nf
  have E2 : m 42 0 2 = m 0 0 0 := hS.1.1
  have E3 : m 42 0 3 = m 22 0 2 := hR.1.2.2.1
  have E7 : m 42 0 7 = m 1 0 0 := hS.1.2.2.2.2.2.1
  have E8 : m 42 0 8 = m 22 0 6 := hR.1.2.2.2.2.2.2
  have E9 : m 42 0 9 = m 2 0 0 := hS.1.2.2.2.2.2.2
  have n8 := hP.2.2.1
  have n12 := hP.2.2.2.2.2.1
  have nc := hP.2.2.2.2.2.2.1
  have nt := hB.2.2.2.1.1
  have nl := hB.2.2.2.2.1.1
  have t0 := hB.1
  by_cases h0 : 0 ≤ a0 ∧ a0 < m 22 0 6
  · by_cases h1 : 1 ≤ a1 ∧ a1 ≤ 100000
    · by_cases h2 : 1 ≤ a2 ∧ a2 ≤ 500
      · have vh : hinC m 0 0 a0 a1 = hinN (m 42 0) a0 a1 := V_hin hP hB hR hS h0.1 h0.2
        by_cases hz : hinC m 0 0 a0 a1 = 0
        · have hl := hin_l hz
          have vs := V_safe h.1 h0.1 h0.2 h1 h2 hl _ _ _ rfl rfl rfl
          have c1 := h.1.cp (b := 1)
          have d1 := vs.2.2.1
          have v4 := vs.2.2.2.1
          have v5 := vs.2.2.2.2.1
          have v6 := vs.2.2.2.2.2
          have vq := safe_q vs.2.1 vs.1 (m 42 0 (30 + 7 * m 42 0 (270 + 6 * a0 + 0) + 6))
          have fn := fin_s (cm := (tkL (addL (cpS (tkL (cpS m 0 1) 0 1 a2.toNat) 0 1) 1 a0 a1 ((cpS (tkL (cpS m 0 1) 0 1 a2.toNat) 0 1) 0 0 0 + a2)) 0 1 a2.toNat)) h (Kp_cpS.t (Kp_tkL.t (Kp_cpS.t (Kp_addL.t Kp_tkL)))) ((if nmM (tkL (addL (cpS (tkL (cpS m 0 1) 0 1 a2.toNat) 0 1) 1 a0 a1 ((cpS (tkL (cpS m 0 1) 0 1 a2.toNat) 0 1) 0 0 0 + a2)) 0 1 a2.toNat) (m 28 0 a0) ≤ nmM (tkL (cpS m 0 1) 0 1 a2.toNat) (m 28 0 a0) then 1 else 0))
          refine .inl ⟨_, ((if nmM (tkL (addL (cpS (tkL (cpS m 0 1) 0 1 a2.toNat) 0 1) 1 a0 a1 ((cpS (tkL (cpS m 0 1) 0 1 a2.toNat) 0 1) 0 0 0 + a2)) 0 1 a2.toNat) (m 28 0 a0) ≤ nmM (tkL (cpS m 0 1) 0 1 a2.toNat) (m 28 0 a0) then 1 else 0)), (up3 (tkL (addL (cpS (tkL (cpS m 0 1) 0 1 a2.toNat) 0 1) 1 a0 a1 ((cpS (tkL (cpS m 0 1) 0 1 a2.toNat) 0 1) 0 0 0 + a2)) 0 1 a2.toNat) 49 0 0 ((if nmM (tkL (addL (cpS (tkL (cpS m 0 1) 0 1 a2.toNat) 0 1) 1 a0 a1 ((cpS (tkL (cpS m 0 1) 0 1 a2.toNat) 0 1) 0 0 0 + a2)) 0 1 a2.toNat) (m 28 0 a0) ≤ nmM (tkL (cpS m 0 1) 0 1 a2.toNat) (m 28 0 a0) then 1 else 0))), _, .inr rfl, ite_01, hq_isSafe (P_isSafe1 hP hB hT hh0 hh1 ha0 ha1 ha2 (by omega) (by omega) (by omega) (hz)), Ct.vi (Ct.at (Q_isSafe1 (m := (up3 (tkL (addL (cpS (tkL (cpS m 0 1) 0 1 a2.toNat) 0 1) 1 a0 a1 ((cpS (tkL (cpS m 0 1) 0 1 a2.toNat) 0 1) 0 0 0 + a2)) 0 1 a2.toNat) 49 0 0 ((if nmM (tkL (addL (cpS (tkL (cpS m 0 1) 0 1 a2.toNat) 0 1) 1 a0 a1 ((cpS (tkL (cpS m 0 1) 0 1 a2.toNat) 0 1) 0 0 0 + a2)) 0 1 a2.toNat) (m 28 0 a0) ≤ nmM (tkL (cpS m 0 1) 0 1 a2.toNat) (m 28 0 a0) then 1 else 0)))) hF ha0 ha1 ha2 (by omega) (by omega) (c1.1) (c1.2.1) (c1.2.2.1) (c1.2.2.2.1) (c1.2.2.2.2.2.2.1) (d1.1) (d1.2.1) (d1.2.2.1) (d1.2.2.2.1) (d1.2.2.2.2.2.2.1) (by rw [← vs.1]; unfold inI; omega) (by rw [← vs.2.1]; unfold inI; omega) (by rw [← vh]; exact hz)) fn.1) (congrArg iI (Eq.symm (vq))), fn.2.1, fn.2.2.1, fn.2.2.2⟩
        · have fn := fin_r (cm := (m)) h (Kp.r m) ((if False then 1 else 0))
          refine .inl ⟨_, ((if False then 1 else 0)), (up3 (m) 49 0 0 ((if False then 1 else 0))), _, .inl rfl, ite_01, hq_isSafe (P_isSafe0 hP hB hT hh0 hh1 ha0 ha1 ha2 (by omega) (by omega) (by omega) (hz)), Ct.vi (Ct.at (Q_isSafe0 (m := (up3 (m) 49 0 0 ((if False then 1 else 0)))) hF ha0 ha1 ha2 (by omega) (by omega) (by rw [← vh]; exact hz)) fn.1) rfl, fn.2.1, fn.2.2.1, fn.2.2.2⟩
      · refine .inr ⟨_, 2, sr (thr m 2) (m 42 0), .inl rfl, by decide, hq_isSafe_iaE (Px_isSafe_2 hP hB hT hh0 hh1 ha0 ha1 ha2 (by omega) (by omega) (by omega)), ?_, (fin_x h 2).1, (fin_x h 2).2⟩
        exact Ct.at (Qx_isSafe_1 (m := m) hF ha0 ha1 ha2 (by omega) (by omega)) (sr_self m)
    · refine .inr ⟨_, 2, sr (thr m 2) (m 42 0), .inl rfl, by decide, hq_isSafe_iaE (Px_isSafe_1 hP hB hT hh0 hh1 ha0 ha1 ha2 (by omega) (by omega)), ?_, (fin_x h 2).1, (fin_x h 2).2⟩
      exact Ct.at (Qx_isSafe_1 (m := m) hF ha0 ha1 ha2 (by omega) (by omega)) (sr_self m)
  · refine .inr ⟨_, 1, sr (thr m 1) (m 42 0), .inl rfl, by decide, hq_isSafe_ioE (Px_isSafe_0 hP hB hT hh0 hh1 ha0 ha1 ha2 (by omega)), ?_, (fin_x h 1).1, (fin_x h 1).2⟩
    exact Ct.at (Qx_isSafe_0 (m := m) hF ha0 ha1 ha2 (by omega)) (sr_self m)
theorem pr_lend {G : GG} {m : Mem} {K : Nat} (h : IV m K) (hK : K ≤ 600) {a0 a1 a2 : Int} (ha0 : inI a0) (ha1 : inI a1) (ha2 : inI a2) : PO G ML_lend ML_lend_h MX8_lend [.int (iI a0), .int (iI a1), .int (iI a2)] m K := by
  have hP := h.1.1
  have hB := h.1.2.1
  have hR := h.1.2.2.1
  have hS := h.1.2.2.2.1
  have h8 := h.1.2.2.2.2.1
  have hT := h.1.2.2.2.2.2.2.1
  have hh0 := h.2.1.1
  have hh1 := h.2.1.2.1
  have hm6 := h.2.1.2.2
  have hF := h.nf
  have E2 : m 42 0 2 = m 0 0 0 := hS.1.1
  have E3 : m 42 0 3 = m 22 0 2 := hR.1.2.2.1
  have E7 : m 42 0 7 = m 1 0 0 := hS.1.2.2.2.2.2.1
  have E8 : m 42 0 8 = m 22 0 6 := hR.1.2.2.2.2.2.2
  have E9 : m 42 0 9 = m 2 0 0 := hS.1.2.2.2.2.2.2
  have n8 := hP.2.2.1
  have n12 := hP.2.2.2.2.2.1
  have nc := hP.2.2.2.2.2.2.1
  have nt := hB.2.2.2.1.1
  have nl := hB.2.2.2.2.1.1
  have t0 := hB.1
  by_cases h0 : 0 ≤ a0 ∧ a0 < m 22 0 6
  · by_cases h1 : 1 ≤ a1 ∧ a1 ≤ 100000
    · by_cases h2 : 1 ≤ a2 ∧ a2 ≤ 999
      · have vh : hinC m 0 0 a0 a1 = hinN (m 42 0) a0 a1 := V_hin hP hB hR hS h0.1 h0.2
        by_cases hz : hinC m 0 0 a0 a1 = 0
        · have hl := hin_l hz
          have hp := h.1.push
          have hc : ∀ k i, i ≠ 0 ∨ 22 ≤ k → (addL (pushC m) 0 a0 a1 (pushC m 0 0 0 + a2)) k i = pushC m k i := fun k i z => by
            by_cases g : i = 0
            · rw [addL_k (by omega)]
            · rw [addL_i g]
          have hST : ST (addL (pushC m) 0 a0 a1 (pushC m 0 0 0 + a2)) 0 0 (ldN (m 42 0) a0 a1 a2) (K + 1) := (hp.lend h0.1 (by rw [pushC_k (.inr ⟨by decide, by decide⟩)]; exact h0.2) h1 h2 rfl (by rw [pushC_0 (by decide)]; exact hl)).more (by omega)
          have fn := fin_a (cm := (addL (pushC m) 0 a0 a1 (pushC m 0 0 0 + a2))) h hc hST (nrI (pushC m 2 0 0))
          refine .inl ⟨_, (nrI (pushC m 2 0 0)), (up3 (addL (pushC m) 0 a0 a1 (pushC m 0 0 0 + a2)) 49 0 0 (nrI (pushC m 2 0 0))), _, .inl rfl, inI_nr _, hq_lend (inI_nr _) (Ct.vi (P_lend1 hP hB hT hh0 hh1 ha0 ha1 ha2 (by omega) (by omega) (by omega) (hz)) (iI_nr _).symm), Ct.vi (Ct.at (Q_lend1 (m := (up3 (addL (pushC m) 0 a0 a1 (pushC m 0 0 0 + a2)) 49 0 0 (nrI (pushC m 2 0 0)))) hF ha0 ha1 ha2 (by omega) (by omega) (act_6 h hc _) (by rw [← vh]; exact hz)) fn.1) (by rw [iI_nr]; exact congrArg iI (Eq.symm ((by rw [pushC_0 (by decide)]; exact E9.symm)))), fn.2.1, fn.2.2.1, fn.2.2.2⟩
        · have fn := fin_r (cm := (m)) h (Kp.r m) (nrI (-10 - hinC m 0 0 a0 a1))
          refine .inl ⟨_, (nrI (-10 - hinC m 0 0 a0 a1)), (up3 (m) 49 0 0 (nrI (-10 - hinC m 0 0 a0 a1))), _, .inl rfl, inI_nr _, hq_lend (inI_nr _) (Ct.vi (P_lend0 hP hB hT hh0 hh1 ha0 ha1 ha2 (by omega) (by omega) (by omega) (hz)) (iI_nr _).symm), Ct.vi (Ct.at (Q_lend0 (m := (up3 (m) 49 0 0 (nrI (-10 - hinC m 0 0 a0 a1)))) hF ha0 ha1 ha2 (by omega) (by omega) (by rw [← vh]; exact hz)) fn.1) (by rw [iI_nr]; exact congrArg iI (Eq.symm ((by rw [vh])))), fn.2.1, fn.2.2.1, fn.2.2.2⟩
      · refine .inr ⟨_, 2, sr (thr m 2) (m 42 0), .inl rfl, by decide, hq_lend_iaE (Px_lend_2 hP hB hT hh0 hh1 ha0 ha1 ha2 (by omega) (by omega) (by omega)), ?_, (fin_x h 2).1, (fin_x h 2).2⟩
        exact Ct.at (Qx_lend_1 (m := m) hF ha0 ha1 ha2 (by omega) (by omega)) (sr_self m)
    · refine .inr ⟨_, 2, sr (thr m 2) (m 42 0), .inl rfl, by decide, hq_lend_iaE (Px_lend_1 hP hB hT hh0 hh1 ha0 ha1 ha2 (by omega) (by omega)), ?_, (fin_x h 2).1, (fin_x h 2).2⟩
      exact Ct.at (Qx_lend_1 (m := m) hF ha0 ha1 ha2 (by omega) (by omega)) (sr_self m)
  · refine .inr ⟨_, 1, sr (thr m 1) (m 42 0), .inl rfl, by decide, hq_lend_ioE (Px_lend_0 hP hB hT hh0 hh1 ha0 ha1 ha2 (by omega)), ?_, (fin_x h 1).1, (fin_x h 1).2⟩
    exact Ct.at (Qx_lend_0 (m := m) hF ha0 ha1 ha2 (by omega)) (sr_self m)
theorem pr_recall {G : GG} {m : Mem} {K : Nat} (h : IV m K) (hK : K ≤ 600) {a0 : Int} (ha0 : inI a0) : PO G ML_recall ML_recall_h MX8_recall [.int (iI a0)] m K := by
  have hP := h.1.1
  have hB := h.1.2.1
  have hR := h.1.2.2.1
  have hS := h.1.2.2.2.1
  have h8 := h.1.2.2.2.2.1
  have hT := h.1.2.2.2.2.2.2.1
  have hh0 := h.2.1.1
  have hh1 := h.2.1.2.1
  have hm6 := h.2.1.2.2
  have hF := h.nf
  have E2 : m 42 0 2 = m 0 0 0 := hS.1.1
  have E3 : m 42 0 3 = m 22 0 2 := hR.1.2.2.1
  have E7 : m 42 0 7 = m 1 0 0 := hS.1.2.2.2.2.2.1
  have E8 : m 42 0 8 = m 22 0 6 := hR.1.2.2.2.2.2.2
  have E9 : m 42 0 9 = m 2 0 0 := hS.1.2.2.2.2.2.2
  have n8 := hP.2.2.1
  have n12 := hP.2.2.2.2.2.1
  have nc := hP.2.2.2.2.2.2.1
  have nt := hB.2.2.2.1.1
  have nl := hB.2.2.2.2.1.1
  have t0 := hB.1
  by_cases h0 : 0 ≤ a0 ∧ a0 < m 2 0 0
  · have kl := hS.2.2.2.2.2.2 a0 h0.1 h0.2
    have bl := hB.2.2.2.2.1.2 a0 h0.1 h0.2
    have b21 := bl.2.2.2.2.2.2
    have kc := hR.2.2.2.2.2.1 _ bl.1.1 bl.1.2
    have bc := BP_c hP bl.1.1 bl.1.2
    have b31 := bc.2.2.2.1
    by_cases hz : m 20 0 a0 ≤ 2
    · have eT : pushC m 0 0 0 + pushC m 31 0 (pushC m 15 0 a0) = m 42 0 2 + m 42 0 (270 + 6 * m 42 0 (318 + 7 * a0 + 0) + 3) := by
        rw [pushC_0 (show (0 : Nat) < 22 by decide), pushC_0 (show (15 : Nat) < 22 by decide), pushC_k (.inr ⟨by decide, by decide⟩), kl.1, kc.2.2.2.1, E2]
      have eB : 0 ≤ pushC m 0 0 0 + pushC m 31 0 (pushC m 15 0 a0) ∧ pushC m 0 0 0 + pushC m 31 0 (pushC m 15 0 a0) ≤ 11000 := by
        rw [pushC_0 (show (0 : Nat) < 22 by decide), pushC_0 (show (15 : Nat) < 22 by decide), pushC_k (.inr ⟨by decide, by decide⟩)]
        omega
      have hp := h.1.push
      have hc : ∀ k i, i ≠ 0 ∨ 22 ≤ k → (brF (pushC m) 0 a0 (pushC m 0 0 0 + pushC m 31 0 (pushC m 15 0 a0))) k i = pushC m k i := fun k i z => by
        by_cases g : i = 0
        · rw [brF_k (by omega)]
        · rw [brF_i g]
      have hST : ST (brF (pushC m) 0 a0 (pushC m 0 0 0 + pushC m 31 0 (pushC m 15 0 a0))) 0 0 (upN (m 42 0) (318 + 7 * a0 + 6) (min ((m 42 0) (318 + 7 * a0 + 6)) ((m 42 0) 2 + (m 42 0) (270 + 6 * (m 42 0) (318 + 7 * a0 + 0) + 3)))) (K + 1) := (hp.bring h0.1 (by rw [pushC_0 (by decide)]; exact h0.2) eB (by rw [← eT])).more (by omega)
      have fn := fin_a (cm := (brF (pushC m) 0 a0 (pushC m 0 0 0 + pushC m 31 0 (pushC m 15 0 a0)))) h hc hST (nrI ((brF (pushC m) 0 a0 (pushC m 0 0 0 + pushC m 31 0 (pushC m 15 0 a0))) 21 0 a0))
      refine .inl ⟨_, (nrI ((brF (pushC m) 0 a0 (pushC m 0 0 0 + pushC m 31 0 (pushC m 15 0 a0))) 21 0 a0)), (up3 (brF (pushC m) 0 a0 (pushC m 0 0 0 + pushC m 31 0 (pushC m 15 0 a0))) 49 0 0 (nrI ((brF (pushC m) 0 a0 (pushC m 0 0 0 + pushC m 31 0 (pushC m 15 0 a0))) 21 0 a0))), _, .inl rfl, inI_nr _, hq_recall (inI_nr _) (Ct.vi (P_recall1 hP hB hT hh0 hh1 ha0 (by omega) (by omega)) (iI_nr _).symm), Ct.vi (Ct.at (Q_recall1 (m := (up3 (brF (pushC m) 0 a0 (pushC m 0 0 0 + pushC m 31 0 (pushC m 15 0 a0))) 49 0 0 (nrI ((brF (pushC m) 0 a0 (pushC m 0 0 0 + pushC m 31 0 (pushC m 15 0 a0))) 21 0 a0)))) hF ha0 (by omega) (act_6 h hc _) (by rw [kl.2.2.2.2.2.1]; exact hz) (by rw [kl.2.2.2.2.2.2]; unfold inI; omega) (by rw [← eT]; unfold inI; omega)) fn.1) (by rw [iI_nr]; exact congrArg iI (Eq.symm ((hST.2.2.2.1.2.2.2.2.2.2 a0 h0.1 (by rw [brF_k (by decide), pushC_0 (by decide)]; exact h0.2)).2.2.2.2.2.2.symm))), fn.2.1, fn.2.2.1, fn.2.2.2⟩
    · have fn := fin_r (cm := (m)) h (Kp.r m) (nrI (-3))
      refine .inl ⟨_, (nrI (-3)), (up3 (m) 49 0 0 (nrI (-3))), _, .inl rfl, inI_nr _, hq_recall (inI_nr _) (Ct.vi (P_recall0 hP hB hT hh0 hh1 ha0 (by omega) (by omega)) (iI_nr _).symm), Ct.vi (Ct.at (Q_recall0 (m := (up3 (m) 49 0 0 (nrI (-3)))) hF ha0 (by omega) (by rw [kl.2.2.2.2.2.1]; exact hz)) fn.1) (iI_nr _).symm, fn.2.1, fn.2.2.1, fn.2.2.2⟩
  · refine .inr ⟨_, 1, sr (thr m 1) (m 42 0), .inl rfl, by decide, hq_recall_ioE (Px_recall_0 hP hB hT hh0 hh1 ha0 (by omega)), ?_, (fin_x h 1).1, (fin_x h 1).2⟩
    exact Ct.at (Qx_recall_0 (m := m) hF ha0 (by omega)) (sr_self m)
theorem pr_giveBack {G : GG} {m : Mem} {K : Nat} (h : IV m K) (hK : K ≤ 600) {a0 : Int} (ha0 : inI a0) : PO G ML_giveBack ML_giveBack_h MX8_giveBack [.int (iI a0)] m K := by
  have hP := h.1.1
  have hB := h.1.2.1
  have hR := h.1.2.2.1
  have hS := h.1.2.2.2.1
  have h8 := h.1.2.2.2.2.1
  have hT := h.1.2.2.2.2.2.2.1
  have hh0 := h.2.1.1
  have hh1 := h.2.1.2.1
  have hm6 := h.2.1.2.2
  have hF := h.nf
  have E2 : m 42 0 2 = m 0 0 0 := hS.1.1
  have E3 : m 42 0 3 = m 22 0 2 := hR.1.2.2.1
  have E7 : m 42 0 7 = m 1 0 0 := hS.1.2.2.2.2.2.1
  have E8 : m 42 0 8 = m 22 0 6 := hR.1.2.2.2.2.2.2
  have E9 : m 42 0 9 = m 2 0 0 := hS.1.2.2.2.2.2.2
  have n8 := hP.2.2.1
  have n12 := hP.2.2.2.2.2.1
  have nc := hP.2.2.2.2.2.2.1
  have nt := hB.2.2.2.1.1
  have nl := hB.2.2.2.2.1.1
  have t0 := hB.1
  by_cases h0 : 0 ≤ a0 ∧ a0 < m 2 0 0
  · have kl := hS.2.2.2.2.2.2 a0 h0.1 h0.2
    have bl := hB.2.2.2.2.1.2 a0 h0.1 h0.2
    have b21 := bl.2.2.2.2.2.2
    have kc := hR.2.2.2.2.2.1 _ bl.1.1 bl.1.2
    have bc := BP_c hP bl.1.1 bl.1.2
    have b31 := bc.2.2.2.1
    by_cases hz : m 20 0 a0 ≤ 2
    · have eT : pushC m 0 0 0 = m 42 0 2 := by rw [pushC_0 (by decide)]; exact E2.symm
      have eB : 0 ≤ pushC m 0 0 0 ∧ pushC m 0 0 0 ≤ 11000 := by rw [pushC_0 (by decide)]; exact t0
      have hp := h.1.push
      have hc : ∀ k i, i ≠ 0 ∨ 22 ≤ k → (brF (pushC m) 0 a0 (pushC m 0 0 0)) k i = pushC m k i := fun k i z => by
        by_cases g : i = 0
        · rw [brF_k (by omega)]
        · rw [brF_i g]
      have hST : ST (brF (pushC m) 0 a0 (pushC m 0 0 0)) 0 0 (upN (m 42 0) (318 + 7 * a0 + 6) (min ((m 42 0) (318 + 7 * a0 + 6)) ((m 42 0) 2))) (K + 1) := (hp.bring h0.1 (by rw [pushC_0 (by decide)]; exact h0.2) eB (by rw [← eT])).more (by omega)
      have fn := fin_a (cm := (brF (pushC m) 0 a0 (pushC m 0 0 0))) h hc hST (nrI (owedC (brF (pushC m) 0 a0 (pushC m 0 0 0)) 0 0 a0))
      refine .inl ⟨_, (nrI (owedC (brF (pushC m) 0 a0 (pushC m 0 0 0)) 0 0 a0)), (up3 (brF (pushC m) 0 a0 (pushC m 0 0 0)) 49 0 0 (nrI (owedC (brF (pushC m) 0 a0 (pushC m 0 0 0)) 0 0 a0))), _, .inl rfl, inI_nr _, hq_giveBack (inI_nr _) (Ct.vi (P_giveBack1 hP hB hT hh0 hh1 ha0 (by omega) (by omega)) (iI_nr _).symm), Ct.vi (Ct.at (Q_giveBack1 (m := (up3 (brF (pushC m) 0 a0 (pushC m 0 0 0)) 49 0 0 (nrI (owedC (brF (pushC m) 0 a0 (pushC m 0 0 0)) 0 0 a0)))) hF ha0 (by omega) (act_6 h hc _) (by rw [kl.2.2.2.2.2.1]; exact hz) (by rw [kl.2.2.2.2.2.2]; unfold inI; omega) (by rw [E2]; unfold inI; omega) (LN_of hST.1 hST.2.1 hST.2.2.1 hST.2.2.2.1 h0.1 (by rw [brF_k (by decide), pushC_0 (by decide)]; exact h0.2))) fn.1) (by rw [iI_nr]; exact congrArg iI (Eq.symm ((R_owed hST.2.2.1 hST.2.2.2.1 h0.1 (by rw [brF_k (by decide), pushC_0 (by decide)]; exact h0.2)).symm))), fn.2.1, fn.2.2.1, fn.2.2.2⟩
    · have fn := fin_r (cm := (m)) h (Kp.r m) (nrI (-3))
      refine .inl ⟨_, (nrI (-3)), (up3 (m) 49 0 0 (nrI (-3))), _, .inl rfl, inI_nr _, hq_giveBack (inI_nr _) (Ct.vi (P_giveBack0 hP hB hT hh0 hh1 ha0 (by omega) (by omega)) (iI_nr _).symm), Ct.vi (Ct.at (Q_giveBack0 (m := (up3 (m) 49 0 0 (nrI (-3)))) hF ha0 (by omega) (by rw [kl.2.2.2.2.2.1]; exact hz)) fn.1) (iI_nr _).symm, fn.2.1, fn.2.2.1, fn.2.2.2⟩
  · refine .inr ⟨_, 1, sr (thr m 1) (m 42 0), .inl rfl, by decide, hq_giveBack_ioE (Px_giveBack_0 hP hB hT hh0 hh1 ha0 (by omega)), ?_, (fin_x h 1).1, (fin_x h 1).2⟩
    exact Ct.at (Qx_giveBack_0 (m := m) hF ha0 (by omega)) (sr_self m)
theorem pr_forgive {G : GG} {m : Mem} {K : Nat} (h : IV m K) (hK : K ≤ 600) {a0 : Int} (ha0 : inI a0) : PO G ML_forgive ML_forgive_h MX8_forgive [.int (iI a0)] m K := by
  have hP := h.1.1
  have hB := h.1.2.1
  have hR := h.1.2.2.1
  have hS := h.1.2.2.2.1
  have h8 := h.1.2.2.2.2.1
  have hT := h.1.2.2.2.2.2.2.1
  have hh0 := h.2.1.1
  have hh1 := h.2.1.2.1
  have hm6 := h.2.1.2.2
  have hF := h.nf
  have E2 : m 42 0 2 = m 0 0 0 := hS.1.1
  have E3 : m 42 0 3 = m 22 0 2 := hR.1.2.2.1
  have E7 : m 42 0 7 = m 1 0 0 := hS.1.2.2.2.2.2.1
  have E8 : m 42 0 8 = m 22 0 6 := hR.1.2.2.2.2.2.2
  have E9 : m 42 0 9 = m 2 0 0 := hS.1.2.2.2.2.2.2
  have n8 := hP.2.2.1
  have n12 := hP.2.2.2.2.2.1
  have nc := hP.2.2.2.2.2.2.1
  have nt := hB.2.2.2.1.1
  have nl := hB.2.2.2.2.1.1
  have t0 := hB.1
  by_cases h0 : 0 ≤ a0 ∧ a0 < m 2 0 0
  · have kl := hS.2.2.2.2.2.2 a0 h0.1 h0.2
    have bl := hB.2.2.2.2.1.2 a0 h0.1 h0.2
    have b21 := bl.2.2.2.2.2.2
    have kc := hR.2.2.2.2.2.1 _ bl.1.1 bl.1.2
    have bc := BP_c hP bl.1.1 bl.1.2
    have b31 := bc.2.2.2.1
    by_cases hz : m 20 0 a0 ≤ 2
    · have hp := h.1.push
      have hc : ∀ k i, i ≠ 0 ∨ 22 ≤ k → (up3 (pushC m) 20 0 a0 5) k i = pushC m k i := fun k i z => by
        by_cases g : i = 0
        · rw [up3_k (by omega)]
        · rw [up3_i g]
      have hST : ST (up3 (pushC m) 20 0 a0 5) 0 0 (upN (m 42 0) (318 + 7 * a0 + 5) 5) (K + 1) := (hp.forgive h0.1 (by rw [pushC_0 (by decide)]; exact h0.2)).more (by omega)
      have fn := fin_a (cm := (up3 (pushC m) 20 0 a0 5)) h hc hST (nrI (owedC (pushC m) 0 0 a0))
      refine .inl ⟨_, (nrI (owedC (pushC m) 0 0 a0)), (up3 (up3 (pushC m) 20 0 a0 5) 49 0 0 (nrI (owedC (pushC m) 0 0 a0))), _, .inl rfl, inI_nr _, hq_forgive (inI_nr _) (Ct.vi (P_forgive1 hP hB hT hh0 hh1 ha0 (by omega) (by omega)) (iI_nr _).symm), Ct.vi (Ct.at (Q_forgive1 (m := (up3 (up3 (pushC m) 20 0 a0 5) 49 0 0 (nrI (owedC (pushC m) 0 0 a0)))) hF ha0 (by omega) (act_6 h hc _) (by rw [kl.2.2.2.2.2.1]; exact hz) (by rw [kl.2.2.2.2.2.2]; unfold inI; omega)) fn.1) (by rw [iI_nr]; exact congrArg iI (Eq.symm ((R_owed hp.2.2.1 hp.2.2.2.1 h0.1 (by rw [pushC_0 (by decide)]; exact h0.2)).symm))), fn.2.1, fn.2.2.1, fn.2.2.2⟩
    · have fn := fin_r (cm := (m)) h (Kp.r m) (nrI (-3))
      refine .inl ⟨_, (nrI (-3)), (up3 (m) 49 0 0 (nrI (-3))), _, .inl rfl, inI_nr _, hq_forgive (inI_nr _) (Ct.vi (P_forgive0 hP hB hT hh0 hh1 ha0 (by omega) (by omega)) (iI_nr _).symm), Ct.vi (Ct.at (Q_forgive0 (m := (up3 (m) 49 0 0 (nrI (-3)))) hF ha0 (by omega) (by rw [kl.2.2.2.2.2.1]; exact hz)) fn.1) (iI_nr _).symm, fn.2.1, fn.2.2.1, fn.2.2.2⟩
  · refine .inr ⟨_, 1, sr (thr m 1) (m 42 0), .inl rfl, by decide, hq_forgive_ioE (Px_forgive_0 hP hB hT hh0 hh1 ha0 (by omega)), ?_, (fin_x h 1).1, (fin_x h 1).2⟩
    exact Ct.at (Qx_forgive_0 (m := m) hF ha0 (by omega)) (sr_self m)
theorem pr_mend {G : GG} {m : Mem} {K : Nat} (h : IV m K) (hK : K ≤ 600) {a0 : Int} (ha0 : inI a0) : PO G ML_mend ML_mend_h MX8_mend [.int (iI a0)] m K := by
  have hP := h.1.1
  have hB := h.1.2.1
  have hR := h.1.2.2.1
  have hS := h.1.2.2.2.1
  have h8 := h.1.2.2.2.2.1
  have hT := h.1.2.2.2.2.2.2.1
  have hh0 := h.2.1.1
  have hh1 := h.2.1.2.1
  have hm6 := h.2.1.2.2
  have hF := h.nf
  have E2 : m 42 0 2 = m 0 0 0 := hS.1.1
  have E3 : m 42 0 3 = m 22 0 2 := hR.1.2.2.1
  have E7 : m 42 0 7 = m 1 0 0 := hS.1.2.2.2.2.2.1
  have E8 : m 42 0 8 = m 22 0 6 := hR.1.2.2.2.2.2.2
  have E9 : m 42 0 9 = m 2 0 0 := hS.1.2.2.2.2.2.2
  have n8 := hP.2.2.1
  have n12 := hP.2.2.2.2.2.1
  have nc := hP.2.2.2.2.2.2.1
  have nt := hB.2.2.2.1.1
  have nl := hB.2.2.2.2.1.1
  have t0 := hB.1
  by_cases h0 : 0 ≤ a0 ∧ a0 < m 22 0 6
  · have hp := h.1.push
    have hc : ∀ k i, i ≠ 0 ∨ 22 ≤ k → (up3 (pushC m) 10 0 a0 0) k i = pushC m k i := fun k i z => by
      by_cases g : i = 0
      · rw [up3_k (by omega)]
      · rw [up3_i g]
    have hST : ST (up3 (pushC m) 10 0 a0 0) 0 0 (upN (m 42 0) (270 + 6 * a0 + 5) 0) (K + 1) := (hp.mend h0.1 (by rw [pushC_k (.inr ⟨by decide, by decide⟩)]; exact h0.2)).more (by omega)
    have fn := fin_a (cm := (up3 (pushC m) 10 0 a0 0)) h hc hST (nrI (pushC m 10 0 a0))
    refine .inl ⟨_, (nrI (pushC m 10 0 a0)), (up3 (up3 (pushC m) 10 0 a0 0) 49 0 0 (nrI (pushC m 10 0 a0))), _, .inl rfl, inI_nr _, hq_mend (inI_nr _) (Ct.vi (P_mend hP hB hT hh0 hh1 ha0 (by omega)) (iI_nr _).symm), Ct.vi (Ct.at (Q_mend (m := (up3 (up3 (pushC m) 10 0 a0 0) 49 0 0 (nrI (pushC m 10 0 a0)))) hF ha0 (by omega) (act_6 h hc _)) fn.1) (by rw [iI_nr]; exact congrArg iI (Eq.symm ((by rw [pushC_0 (by decide)]; exact (hS.2.2.2.2.2.1 a0 h0.1 h0.2).symm)))), fn.2.1, fn.2.2.1, fn.2.2.2⟩
  · refine .inr ⟨_, 1, sr (thr m 1) (m 42 0), .inl rfl, by decide, hq_mend_ioE (Px_mend_0 hP hB hT hh0 hh1 ha0 (by omega)), ?_, (fin_x h 1).1, (fin_x h 1).2⟩
    exact Ct.at (Qx_mend_0 (m := m) hF ha0 (by omega)) (sr_self m)
theorem pr_charge {G : GG} {m : Mem} {K : Nat} (h : IV m K) (hK : K ≤ 600) {a0 a1 : Int} (ha0 : inI a0) (ha1 : inI a1) : PO G ML_charge ML_charge_h MX8_charge [.int (iI a0), .int (iI a1)] m K := by
  have hP := h.1.1
  have hB := h.1.2.1
  have hR := h.1.2.2.1
  have hS := h.1.2.2.2.1
  have h8 := h.1.2.2.2.2.1
  have hT := h.1.2.2.2.2.2.2.1
  have hh0 := h.2.1.1
  have hh1 := h.2.1.2.1
  have hm6 := h.2.1.2.2
  have hF := h.nf
  have E2 : m 42 0 2 = m 0 0 0 := hS.1.1
  have E3 : m 42 0 3 = m 22 0 2 := hR.1.2.2.1
  have E7 : m 42 0 7 = m 1 0 0 := hS.1.2.2.2.2.2.1
  have E8 : m 42 0 8 = m 22 0 6 := hR.1.2.2.2.2.2.2
  have E9 : m 42 0 9 = m 2 0 0 := hS.1.2.2.2.2.2.2
  have n8 := hP.2.2.1
  have n12 := hP.2.2.2.2.2.1
  have nc := hP.2.2.2.2.2.2.1
  have nt := hB.2.2.2.1.1
  have nl := hB.2.2.2.2.1.1
  have t0 := hB.1
  by_cases h0 : 0 ≤ a0 ∧ a0 < m 22 0 2
  · by_cases h1 : 1 ≤ a1 ∧ a1 ≤ 100000
    · have bq := hB.2.1 a0 h0.1 h0.2
      have pf := BS_pf hP hB h0.1 h0.2
      have rb := roomC_b pf
      have p23 := pf.2.1
      have b3 := bq.1
      have kq := hS.2.1 a0 h0.1 h0.2
      have hpn0 := PN_of hP hB hR hS h0.1 h0.2
      have hqn0 := QN_of hP hB hR hS h0.1 h0.2
      have hp := h.1.push
      have hc : ∀ k i, i ≠ 0 ∨ 22 ≤ k → (getC (up3 (pushC m) 0 0 1 (pushC m 0 0 1 + a1)) 0 0 a0 a1) k i = pushC m k i := fun k i z => by
        by_cases g : i = 0
        · rw [getC_k (by omega) (by omega), up3_k (by omega)]
        · rw [getC_i g, up3_i g]
      have hST : ST (getC (up3 (pushC m) 0 0 1 (pushC m 0 0 1 + a1)) 0 0 a0 a1) 0 0 (getN (upN (m 42 0) 10 ((m 42 0) 10 + a1)) a0 a1) (K + 1) := hp.charge h0.1 (by rw [pushC_k (.inr ⟨by decide, by decide⟩)]; exact h0.2) h1
      have fn := fin_a (cm := (getC (up3 (pushC m) 0 0 1 (pushC m 0 0 1 + a1)) 0 0 a0 a1)) h hc hST (nrI (getC (up3 (pushC m) 0 0 1 (pushC m 0 0 1 + a1)) 0 0 a0 a1 3 0 a0))
      refine .inl ⟨_, (nrI (getC (up3 (pushC m) 0 0 1 (pushC m 0 0 1 + a1)) 0 0 a0 a1 3 0 a0)), (up3 (getC (up3 (pushC m) 0 0 1 (pushC m 0 0 1 + a1)) 0 0 a0 a1) 49 0 0 (nrI (getC (up3 (pushC m) 0 0 1 (pushC m 0 0 1 + a1)) 0 0 a0 a1 3 0 a0))), _, .inl rfl, inI_nr _, hq_charge (inI_nr _) (Ct.vi (P_charge hP hB hT hh0 hh1 ha0 ha1 (by omega) (by omega)) (iI_nr _).symm), Ct.vi (Ct.at (Q_charge (m := (up3 (getC (up3 (pushC m) 0 0 1 (pushC m 0 0 1 + a1)) 0 0 a0 a1) 49 0 0 (nrI (getC (up3 (pushC m) 0 0 1 (pushC m 0 0 1 + a1)) 0 0 a0 a1 3 0 a0)))) hF ha0 ha1 (by omega) (by omega) (act_6 h hc _) (PN_up (j := 10) (by decide) (by decide) hpn0) (by rw [upN_off (by omega), kq.1]; omega)) fn.1) (by rw [iI_nr]; exact congrArg iI (Eq.symm ((hST.2.2.2.1.2.1 a0 h0.1 (by rw [getC_k (by decide) (by decide), up3_k (by decide), pushC_k (.inr ⟨by decide, by decide⟩)]; exact h0.2)).1.symm))), fn.2.1, fn.2.2.1, fn.2.2.2⟩
    · refine .inr ⟨_, 2, sr (thr m 2) (m 42 0), .inl rfl, by decide, hq_charge_iaE (Px_charge_1 hP hB hT hh0 hh1 ha0 ha1 (by omega) (by omega)), ?_, (fin_x h 2).1, (fin_x h 2).2⟩
      exact Ct.at (Qx_charge_1 (m := m) hF ha0 ha1 (by omega) (by omega)) (sr_self m)
  · refine .inr ⟨_, 1, sr (thr m 1) (m 42 0), .inl rfl, by decide, hq_charge_ioE (Px_charge_0 hP hB hT hh0 hh1 ha0 ha1 (by omega)), ?_, (fin_x h 1).1, (fin_x h 1).2⟩
    exact Ct.at (Qx_charge_0 (m := m) hF ha0 ha1 (by omega)) (sr_self m)
theorem pr_drain {G : GG} {m : Mem} {K : Nat} (h : IV m K) (hK : K ≤ 600) {a0 a1 : Int} (ha0 : inI a0) (ha1 : inI a1) : PO G ML_drain ML_drain_h MX8_drain [.int (iI a0), .int (iI a1)] m K := by
  have hP := h.1.1
  have hB := h.1.2.1
  have hR := h.1.2.2.1
  have hS := h.1.2.2.2.1
  have h8 := h.1.2.2.2.2.1
  have hT := h.1.2.2.2.2.2.2.1
  have hh0 := h.2.1.1
  have hh1 := h.2.1.2.1
  have hm6 := h.2.1.2.2
  have hF := h.nf
  have E2 : m 42 0 2 = m 0 0 0 := hS.1.1
  have E3 : m 42 0 3 = m 22 0 2 := hR.1.2.2.1
  have E7 : m 42 0 7 = m 1 0 0 := hS.1.2.2.2.2.2.1
  have E8 : m 42 0 8 = m 22 0 6 := hR.1.2.2.2.2.2.2
  have E9 : m 42 0 9 = m 2 0 0 := hS.1.2.2.2.2.2.2
  have n8 := hP.2.2.1
  have n12 := hP.2.2.2.2.2.1
  have nc := hP.2.2.2.2.2.2.1
  have nt := hB.2.2.2.1.1
  have nl := hB.2.2.2.2.1.1
  have t0 := hB.1
  by_cases h0 : 0 ≤ a0 ∧ a0 < m 22 0 2
  · by_cases h1 : 1 ≤ a1 ∧ a1 ≤ 100000
    · have bq := hB.2.1 a0 h0.1 h0.2
      have pf := BS_pf hP hB h0.1 h0.2
      have rb := roomC_b pf
      have p23 := pf.2.1
      have b3 := bq.1
      have kq := hS.2.1 a0 h0.1 h0.2
      have hpn0 := PN_of hP hB hR hS h0.1 h0.2
      have hqn0 := QN_of hP hB hR hS h0.1 h0.2
      have hp := h.1.push
      have ex : min a1 (pushC m 3 0 a0) = min a1 (m 42 0 (30 + 7 * a0 + 1)) := by rw [pushC_0 (by decide), kq.1]
      have hc : ∀ k i, i ≠ 0 ∨ 22 ≤ k → (giveC (up3 (pushC m) 0 0 2 (pushC m 0 0 2 + (min a1 (pushC m 3 0 a0)))) 0 0 a0 (min a1 (pushC m 3 0 a0))) k i = pushC m k i := fun k i z => by
        by_cases g : i = 0
        · rw [giveC_k (by omega) (by omega) (by omega), up3_k (by omega)]
        · rw [giveC_i g, up3_i g]
      have hST : ST (giveC (up3 (pushC m) 0 0 2 (pushC m 0 0 2 + (min a1 (pushC m 3 0 a0)))) 0 0 a0 (min a1 (pushC m 3 0 a0))) 0 0 (giveN (upN (m 42 0) 11 ((m 42 0) 11 + min a1 ((m 42 0) (30 + 7 * a0 + 1)))) a0 (min a1 ((m 42 0) (30 + 7 * a0 + 1)))) (K + 1) := by
        rw [← ex]
        exact (hp.drain h0.1 (by rw [pushC_k (.inr ⟨by decide, by decide⟩)]; exact h0.2) (by rw [pushC_0 (by decide)]; omega)).more (by omega)
      have fn := fin_a (cm := (giveC (up3 (pushC m) 0 0 2 (pushC m 0 0 2 + (min a1 (pushC m 3 0 a0)))) 0 0 a0 (min a1 (pushC m 3 0 a0)))) h hc hST (nrI ((min a1 (pushC m 3 0 a0))))
      refine .inl ⟨_, (nrI ((min a1 (pushC m 3 0 a0)))), (up3 (giveC (up3 (pushC m) 0 0 2 (pushC m 0 0 2 + (min a1 (pushC m 3 0 a0)))) 0 0 a0 (min a1 (pushC m 3 0 a0))) 49 0 0 (nrI ((min a1 (pushC m 3 0 a0))))), _, .inl rfl, inI_nr _, hq_drain (inI_nr _) (Ct.vi (P_drain hP hB hT hh0 hh1 ha0 ha1 (by omega) (by omega)) (iI_nr _).symm), Ct.vi (Ct.at (Q_drain (m := (up3 (giveC (up3 (pushC m) 0 0 2 (pushC m 0 0 2 + (min a1 (pushC m 3 0 a0)))) 0 0 a0 (min a1 (pushC m 3 0 a0))) 49 0 0 (nrI ((min a1 (pushC m 3 0 a0)))))) hF ha0 ha1 (by omega) (by omega) (act_6 h hc _) (by rw [kq.1]; unfold inI; omega) (PN_up (j := 11) (by decide) (by decide) hpn0) (QN_up (j := 11) (by decide) (by decide) hpn0 hqn0) (by rw [upN_off (by omega), kq.1]; omega)) fn.1) (by rw [iI_nr]; exact congrArg iI (Eq.symm (ex))), fn.2.1, fn.2.2.1, fn.2.2.2⟩
    · refine .inr ⟨_, 2, sr (thr m 2) (m 42 0), .inl rfl, by decide, hq_drain_iaE (Px_drain_1 hP hB hT hh0 hh1 ha0 ha1 (by omega) (by omega)), ?_, (fin_x h 2).1, (fin_x h 2).2⟩
      exact Ct.at (Qx_drain_1 (m := m) hF ha0 ha1 (by omega) (by omega)) (sr_self m)
  · refine .inr ⟨_, 1, sr (thr m 1) (m 42 0), .inl rfl, by decide, hq_drain_ioE (Px_drain_0 hP hB hT hh0 hh1 ha0 ha1 (by omega)), ?_, (fin_x h 1).1, (fin_x h 1).2⟩
    exact Ct.at (Qx_drain_0 (m := m) hF ha0 ha1 (by omega)) (sr_self m)
theorem pr_setReserve {G : GG} {m : Mem} {K : Nat} (h : IV m K) (hK : K ≤ 600) {a0 a1 : Int} (ha0 : inI a0) (ha1 : inI a1) : PO G ML_setReserve ML_setReserve_h MX8_setReserve [.int (iI a0), .int (iI a1)] m K := by
  have hP := h.1.1
  have hB := h.1.2.1
  have hR := h.1.2.2.1
  have hS := h.1.2.2.2.1
  have h8 := h.1.2.2.2.2.1
  have hT := h.1.2.2.2.2.2.2.1
  have hh0 := h.2.1.1
  have hh1 := h.2.1.2.1
  have hm6 := h.2.1.2.2
  have hF := h.nf
  have E2 : m 42 0 2 = m 0 0 0 := hS.1.1
  have E3 : m 42 0 3 = m 22 0 2 := hR.1.2.2.1
  have E7 : m 42 0 7 = m 1 0 0 := hS.1.2.2.2.2.2.1
  have E8 : m 42 0 8 = m 22 0 6 := hR.1.2.2.2.2.2.2
  have E9 : m 42 0 9 = m 2 0 0 := hS.1.2.2.2.2.2.2
  have n8 := hP.2.2.1
  have n12 := hP.2.2.2.2.2.1
  have nc := hP.2.2.2.2.2.2.1
  have nt := hB.2.2.2.1.1
  have nl := hB.2.2.2.2.1.1
  have t0 := hB.1
  by_cases h0 : 0 ≤ a0 ∧ a0 < m 22 0 2
  · by_cases h1 : 0 ≤ a1 ∧ a1 ≤ 100000
    · have hp := h.1.push
      have hc : ∀ k i, i ≠ 0 ∨ 22 ≤ k → (up3 (pushC m) 5 0 a0 a1) k i = pushC m k i := fun k i z => by
        by_cases g : i = 0
        · rw [up3_k (by omega)]
        · rw [up3_i g]
      have hST : ST (up3 (pushC m) 5 0 a0 a1) 0 0 (upN (m 42 0) (30 + 7 * a0 + 4) a1) (K + 1) := (hp.reserve h0.1 (by rw [pushC_k (.inr ⟨by decide, by decide⟩)]; exact h0.2) h1).more (by omega)
      have fn := fin_a (cm := (up3 (pushC m) 5 0 a0 a1)) h hc hST (nrI (pushC m 5 0 a0))
      refine .inl ⟨_, (nrI (pushC m 5 0 a0)), (up3 (up3 (pushC m) 5 0 a0 a1) 49 0 0 (nrI (pushC m 5 0 a0))), _, .inl rfl, inI_nr _, hq_setReserve (inI_nr _) (Ct.vi (P_setReserve hP hB hT hh0 hh1 ha0 ha1 (by omega) (by omega)) (iI_nr _).symm), Ct.vi (Ct.at (Q_setReserve (m := (up3 (up3 (pushC m) 5 0 a0 a1) 49 0 0 (nrI (pushC m 5 0 a0)))) hF ha0 ha1 (by omega) (by omega) (act_6 h hc _)) fn.1) (by rw [iI_nr]; exact congrArg iI (Eq.symm ((by rw [pushC_0 (by decide)]; exact (hS.2.1 a0 h0.1 h0.2).2.2.symm)))), fn.2.1, fn.2.2.1, fn.2.2.2⟩
    · refine .inr ⟨_, 2, sr (thr m 2) (m 42 0), .inl rfl, by decide, hq_setReserve_iaE (Px_setReserve_1 hP hB hT hh0 hh1 ha0 ha1 (by omega) (by omega)), ?_, (fin_x h 2).1, (fin_x h 2).2⟩
      exact Ct.at (Qx_setReserve_1 (m := m) hF ha0 ha1 (by omega) (by omega)) (sr_self m)
  · refine .inr ⟨_, 1, sr (thr m 1) (m 42 0), .inl rfl, by decide, hq_setReserve_ioE (Px_setReserve_0 hP hB hT hh0 hh1 ha0 ha1 (by omega)), ?_, (fin_x h 1).1, (fin_x h 1).2⟩
    exact Ct.at (Qx_setReserve_0 (m := m) hF ha0 ha1 (by omega)) (sr_self m)
theorem pr_setCable {G : GG} {m : Mem} {K : Nat} (h : IV m K) (hK : K ≤ 600) {a0 a1 a2 a3 : Int} (ha0 : inI a0) (ha1 : inI a1) (ha2 : inI a2) (ha3 : inI a3) : PO G ML_setCable ML_setCable_h MX8_setCable [.int (iI a0), .int (iI a1), .int (iI a2), .int (iI a3)] m K := by
  have hP := h.1.1
  have hB := h.1.2.1
  have hR := h.1.2.2.1
  have hS := h.1.2.2.2.1
  have h8 := h.1.2.2.2.2.1
  have hT := h.1.2.2.2.2.2.2.1
  have hh0 := h.2.1.1
  have hh1 := h.2.1.2.1
  have hm6 := h.2.1.2.2
  have hF := h.nf
  have E2 : m 42 0 2 = m 0 0 0 := hS.1.1
  have E3 : m 42 0 3 = m 22 0 2 := hR.1.2.2.1
  have E7 : m 42 0 7 = m 1 0 0 := hS.1.2.2.2.2.2.1
  have E8 : m 42 0 8 = m 22 0 6 := hR.1.2.2.2.2.2.2
  have E9 : m 42 0 9 = m 2 0 0 := hS.1.2.2.2.2.2.2
  have n8 := hP.2.2.1
  have n12 := hP.2.2.2.2.2.1
  have nc := hP.2.2.2.2.2.2.1
  have nt := hB.2.2.2.1.1
  have nl := hB.2.2.2.2.1.1
  have t0 := hB.1
  by_cases h0 : 0 ≤ a0 ∧ a0 < m 22 0 2
  · by_cases h1 : 0 ≤ a1 ∧ a1 < m 22 0 2
    · by_cases h2 : 0 ≤ a2 ∧ a2 ≤ 900
      · by_cases h3 : 1 ≤ a3 ∧ a3 ≤ 10000
        · have eb := hR.2.2.2.2.1 a0 a1 h0.1 h0.2 h1.1 h1.2
          have kb := hP.2.2.2.2.2.2.2.2.2.2.1 a0 a1 h0.1 h0.2 h1.1 h1.2
          by_cases hz : m 27 0 (a0 * 8 + a1) = -1
          · have fn := fin_r (cm := (m)) h (Kp.r m) (nrI (-1))
            refine .inl ⟨_, (nrI (-1)), (up3 (m) 49 0 0 (nrI (-1))), _, .inl rfl, inI_nr _, hq_setCable (inI_nr _) (Ct.vi (P_setCable0 hP hB hT hh0 hh1 ha0 ha1 ha2 ha3 (by omega) (by omega) (by omega) (by omega) (hz)) (iI_nr _).symm), Ct.vi (Ct.at (Q_setCable0 (m := (up3 (m) 49 0 0 (nrI (-1)))) hF ha0 ha1 ha2 ha3 (by omega) (by omega) (by rw [eb]; exact hz)) fn.1) (iI_nr _).symm, fn.2.1, fn.2.2.1, fn.2.2.2⟩
          · have hp := h.1.push
            have hc : ∀ k i, i ≠ 0 ∨ 22 ≤ k → (up3 (up3 (pushC m) 6 0 (m 27 0 (a0 * 8 + a1)) a2) 7 0 (m 27 0 (a0 * 8 + a1)) a3) k i = pushC m k i := fun k i z => by
              by_cases g : i = 0
              · rw [up3_k (by omega), up3_k (by omega)]
              · rw [up3_i g, up3_i g]
            have hST : ST (up3 (up3 (pushC m) 6 0 (m 27 0 (a0 * 8 + a1)) a2) 7 0 (m 27 0 (a0 * 8 + a1)) a3) 0 0 (upN (upN (m 42 0) (86 + 6 * (betN (m 42 0) a0 a1) + 2) a2) (86 + 6 * (betN (m 42 0) a0 a1) + 3) a3) (K + 1) := by
              rw [eb]
              exact (hp.cable (by omega) (by rw [pushC_k (.inr ⟨by decide, by decide⟩)]; omega) h2 h3).more (by omega)
            have fn := fin_a (cm := (up3 (up3 (pushC m) 6 0 (m 27 0 (a0 * 8 + a1)) a2) 7 0 (m 27 0 (a0 * 8 + a1)) a3)) h hc hST (nrI (pushC m 6 0 (m 27 0 (a0 * 8 + a1))))
            refine .inl ⟨_, (nrI (pushC m 6 0 (m 27 0 (a0 * 8 + a1)))), (up3 (up3 (up3 (pushC m) 6 0 (m 27 0 (a0 * 8 + a1)) a2) 7 0 (m 27 0 (a0 * 8 + a1)) a3) 49 0 0 (nrI (pushC m 6 0 (m 27 0 (a0 * 8 + a1))))), _, .inl rfl, inI_nr _, hq_setCable (inI_nr _) (Ct.vi (P_setCable1 hP hB hT hh0 hh1 ha0 ha1 ha2 ha3 (by omega) (by omega) (by omega) (by omega) (hz)) (iI_nr _).symm), Ct.vi (Ct.at (Q_setCable1 (m := (up3 (up3 (up3 (pushC m) 6 0 (m 27 0 (a0 * 8 + a1)) a2) 7 0 (m 27 0 (a0 * 8 + a1)) a3) 49 0 0 (nrI (pushC m 6 0 (m 27 0 (a0 * 8 + a1)))))) hF ha0 ha1 ha2 ha3 (by omega) (by omega) (act_6 h hc _) (by rw [eb]; omega)) fn.1) (by rw [iI_nr]; exact congrArg iI (Eq.symm ((by rw [pushC_0 (by decide), eb]; exact (hS.2.2.2.1 (m 27 0 (a0 * 8 + a1)) (by omega) (by omega)).1.symm)))), fn.2.1, fn.2.2.1, fn.2.2.2⟩
        · refine .inr ⟨_, 2, sr (thr m 2) (m 42 0), .inl rfl, by decide, hq_setCable_iaE (Px_setCable_3 hP hB hT hh0 hh1 ha0 ha1 ha2 ha3 (by omega) (by omega) (by omega) (by omega)), ?_, (fin_x h 2).1, (fin_x h 2).2⟩
          exact Ct.at (Qx_setCable_1 (m := m) hF ha0 ha1 ha2 ha3 (by omega) (by omega)) (sr_self m)
      · refine .inr ⟨_, 2, sr (thr m 2) (m 42 0), .inl rfl, by decide, hq_setCable_iaE (Px_setCable_2 hP hB hT hh0 hh1 ha0 ha1 ha2 ha3 (by omega) (by omega) (by omega)), ?_, (fin_x h 2).1, (fin_x h 2).2⟩
        exact Ct.at (Qx_setCable_1 (m := m) hF ha0 ha1 ha2 ha3 (by omega) (by omega)) (sr_self m)
    · refine .inr ⟨_, 1, sr (thr m 1) (m 42 0), .inl rfl, by decide, hq_setCable_ioE (Px_setCable_1 hP hB hT hh0 hh1 ha0 ha1 ha2 ha3 (by omega) (by omega)), ?_, (fin_x h 1).1, (fin_x h 1).2⟩
      exact Ct.at (Qx_setCable_0 (m := m) hF ha0 ha1 ha2 ha3 (by omega)) (sr_self m)
  · refine .inr ⟨_, 1, sr (thr m 1) (m 42 0), .inl rfl, by decide, hq_setCable_ioE (Px_setCable_0 hP hB hT hh0 hh1 ha0 ha1 ha2 ha3 (by omega)), ?_, (fin_x h 1).1, (fin_x h 1).2⟩
    exact Ct.at (Qx_setCable_0 (m := m) hF ha0 ha1 ha2 ha3 (by omega)) (sr_self m)
theorem pr_addTrip {G : GG} {m : Mem} {K : Nat} (h : IV m K) (hK : K ≤ 600) {a0 a1 a2 : Int} (ha0 : inI a0) (ha1 : inI a1) (ha2 : inI a2) : PO G ML_addTrip ML_addTrip_h MX8_addTrip [.int (iI a0), .int (iI a1), .int (iI a2)] m K := by
  have hP := h.1.1
  have hB := h.1.2.1
  have hR := h.1.2.2.1
  have hS := h.1.2.2.2.1
  have h8 := h.1.2.2.2.2.1
  have hT := h.1.2.2.2.2.2.2.1
  have hh0 := h.2.1.1
  have hh1 := h.2.1.2.1
  have hm6 := h.2.1.2.2
  have hF := h.nf
  have E2 : m 42 0 2 = m 0 0 0 := hS.1.1
  have E3 : m 42 0 3 = m 22 0 2 := hR.1.2.2.1
  have E7 : m 42 0 7 = m 1 0 0 := hS.1.2.2.2.2.2.1
  have E8 : m 42 0 8 = m 22 0 6 := hR.1.2.2.2.2.2.2
  have E9 : m 42 0 9 = m 2 0 0 := hS.1.2.2.2.2.2.2
  have n8 := hP.2.2.1
  have n12 := hP.2.2.2.2.2.1
  have nc := hP.2.2.2.2.2.2.1
  have nt := hB.2.2.2.1.1
  have nl := hB.2.2.2.2.1.1
  have t0 := hB.1
  by_cases h0 : 0 ≤ a0 ∧ a0 < m 22 0 2
  · by_cases h1 : 0 ≤ a1 ∧ a1 ≤ 9999
    · by_cases h2 : 1 ≤ a2 ∧ a2 ≤ 100000
      · by_cases hz : 16 ≤ m 1 0 0
        · have fn := fin_r (cm := (m)) h (Kp.r m) (nrI (-2))
          refine .inl ⟨_, (nrI (-2)), (up3 (m) 49 0 0 (nrI (-2))), _, .inl rfl, inI_nr _, hq_addTrip (inI_nr _) (Ct.vi (P_addTrip0 hP hB hT hh0 hh1 ha0 ha1 ha2 (by omega) (by omega) (by omega) (by omega)) (iI_nr _).symm), Ct.vi (Ct.at (Q_addTrip0 (m := (up3 (m) 49 0 0 (nrI (-2)))) hF ha0 ha1 ha2 (by omega) (by omega) (by omega)) fn.1) (iI_nr _).symm, fn.2.1, fn.2.2.1, fn.2.2.2⟩
        · by_cases hz2 : a1 < m 0 0 0
          · have fn := fin_r (cm := (m)) h (Kp.r m) (nrI (-4))
            refine .inl ⟨_, (nrI (-4)), (up3 (m) 49 0 0 (nrI (-4))), _, .inl rfl, inI_nr _, hq_addTrip (inI_nr _) (Ct.vi (P_addTrip1 hP hB hT hh0 hh1 ha0 ha1 ha2 (by omega) (by omega) (by omega) (by omega) (by omega)) (iI_nr _).symm), Ct.vi (Ct.at (Q_addTrip1 (m := (up3 (m) 49 0 0 (nrI (-4)))) hF ha0 ha1 ha2 (by omega) (by omega) (by omega) (by omega) (by omega)) fn.1) (iI_nr _).symm, fn.2.1, fn.2.2.1, fn.2.2.2⟩
          · have hp := h.1.push
            have hc : ∀ k i, i ≠ 0 ∨ 22 ≤ k → (addT (pushC m) 0 a0 a1 a2) k i = pushC m k i := fun k i z => by
              by_cases g : i = 0
              · rw [addT_k (by omega)]
              · rw [addT_i g]
            have hST : ST (addT (pushC m) 0 a0 a1 a2) 0 0 (atN (m 42 0) a0 a1 a2) (K + 1) := (hp.addTrip h0.1 (by rw [pushC_k (.inr ⟨by decide, by decide⟩)]; exact h0.2) h1 h2 (by rw [pushC_0 (by decide)]; omega)).more (by omega)
            have fn := fin_a (cm := (addT (pushC m) 0 a0 a1 a2)) h hc hST (nrI (pushC m 1 0 0))
            refine .inl ⟨_, (nrI (pushC m 1 0 0)), (up3 (addT (pushC m) 0 a0 a1 a2) 49 0 0 (nrI (pushC m 1 0 0))), _, .inl rfl, inI_nr _, hq_addTrip (inI_nr _) (Ct.vi (P_addTrip2 hP hB hT hh0 hh1 ha0 ha1 ha2 (by omega) (by omega) (by omega) (by omega) (by omega)) (iI_nr _).symm), Ct.vi (Ct.at (Q_addTrip2 (m := (up3 (addT (pushC m) 0 a0 a1 a2) 49 0 0 (nrI (pushC m 1 0 0)))) hF ha0 ha1 ha2 (by omega) (by omega) (act_6 h hc _) (by omega) (by omega) (by omega)) fn.1) (by rw [iI_nr]; exact congrArg iI (Eq.symm ((by rw [hST.2.2.2.1.1.2.2.2.2.2.1, (addT_at (pushC m) 0 a0 a1 a2 0).2.2.2.2]; omega)))), fn.2.1, fn.2.2.1, fn.2.2.2⟩
      · refine .inr ⟨_, 2, sr (thr m 2) (m 42 0), .inl rfl, by decide, hq_addTrip_iaE (Px_addTrip_2 hP hB hT hh0 hh1 ha0 ha1 ha2 (by omega) (by omega) (by omega)), ?_, (fin_x h 2).1, (fin_x h 2).2⟩
        exact Ct.at (Qx_addTrip_1 (m := m) hF ha0 ha1 ha2 (by omega) (by omega)) (sr_self m)
    · refine .inr ⟨_, 2, sr (thr m 2) (m 42 0), .inl rfl, by decide, hq_addTrip_iaE (Px_addTrip_1 hP hB hT hh0 hh1 ha0 ha1 ha2 (by omega) (by omega)), ?_, (fin_x h 2).1, (fin_x h 2).2⟩
      exact Ct.at (Qx_addTrip_1 (m := m) hF ha0 ha1 ha2 (by omega) (by omega)) (sr_self m)
  · refine .inr ⟨_, 1, sr (thr m 1) (m 42 0), .inl rfl, by decide, hq_addTrip_ioE (Px_addTrip_0 hP hB hT hh0 hh1 ha0 ha1 ha2 (by omega)), ?_, (fin_x h 1).1, (fin_x h 1).2⟩
    exact Ct.at (Qx_addTrip_0 (m := m) hF ha0 ha1 ha2 (by omega)) (sr_self m)
theorem pr_dropTrip {G : GG} {m : Mem} {K : Nat} (h : IV m K) (hK : K ≤ 600) {a0 : Int} (ha0 : inI a0) : PO G ML_dropTrip ML_dropTrip_h MX8_dropTrip [.int (iI a0)] m K := by
  have hP := h.1.1
  have hB := h.1.2.1
  have hR := h.1.2.2.1
  have hS := h.1.2.2.2.1
  have h8 := h.1.2.2.2.2.1
  have hT := h.1.2.2.2.2.2.2.1
  have hh0 := h.2.1.1
  have hh1 := h.2.1.2.1
  have hm6 := h.2.1.2.2
  have hF := h.nf
  have E2 : m 42 0 2 = m 0 0 0 := hS.1.1
  have E3 : m 42 0 3 = m 22 0 2 := hR.1.2.2.1
  have E7 : m 42 0 7 = m 1 0 0 := hS.1.2.2.2.2.2.1
  have E8 : m 42 0 8 = m 22 0 6 := hR.1.2.2.2.2.2.2
  have E9 : m 42 0 9 = m 2 0 0 := hS.1.2.2.2.2.2.2
  have n8 := hP.2.2.1
  have n12 := hP.2.2.2.2.2.1
  have nc := hP.2.2.2.2.2.2.1
  have nt := hB.2.2.2.1.1
  have nl := hB.2.2.2.2.1.1
  have t0 := hB.1
  by_cases h0 : 0 ≤ a0 ∧ a0 < m 1 0 0
  · have kt := hS.2.2.2.2.1 a0 h0.1 h0.2
    have bt := hB.2.2.2.1.2 a0 h0.1 h0.2
    have b14 := bt.2.2.2
    by_cases hz : m 14 0 a0 = 0
    · have hp := h.1.push
      have hc : ∀ k i, i ≠ 0 ∨ 22 ≤ k → (rmT (pushC m) 0 a0) k i = pushC m k i := fun k i z => by
        by_cases g : i = 0
        · rw [rmT_k (by omega)]
        · rw [rmT_i g]
      have hST : ST (rmT (pushC m) 0 a0) 0 0 (dpN (m 42 0) a0) (K + 1) := (hp.dropTrip (by rw [pushC_0 (by decide)]; exact h0) (by rw [pushC_0 (by decide)]; exact hz)).more (by omega)
      have fn := fin_a (cm := (rmT (pushC m) 0 a0)) h hc hST (nrI (rmT (pushC m) 0 a0 1 0 0))
      refine .inl ⟨_, (nrI (rmT (pushC m) 0 a0 1 0 0)), (up3 (rmT (pushC m) 0 a0) 49 0 0 (nrI (rmT (pushC m) 0 a0 1 0 0))), _, .inl rfl, inI_nr _, hq_dropTrip (inI_nr _) (Ct.vi (P_dropTrip1 hP hB hT hh0 hh1 ha0 (by omega) (hz)) (iI_nr _).symm), Ct.vi (Ct.at (Q_dropTrip1 (m := (up3 (rmT (pushC m) 0 a0) 49 0 0 (nrI (rmT (pushC m) 0 a0 1 0 0)))) hF ha0 (by omega) (act_6 h hc _) (by rw [kt.2.2.2]; unfold inI; omega) (by rw [kt.2.2.2]; exact hz)) fn.1) (by rw [iI_nr]; exact congrArg iI (Eq.symm (hST.2.2.2.1.1.2.2.2.2.2.1.symm))), fn.2.1, fn.2.2.1, fn.2.2.2⟩
    · have fn := fin_r (cm := (m)) h (Kp.r m) (nrI (-3))
      refine .inl ⟨_, (nrI (-3)), (up3 (m) 49 0 0 (nrI (-3))), _, .inl rfl, inI_nr _, hq_dropTrip (inI_nr _) (Ct.vi (P_dropTrip0 hP hB hT hh0 hh1 ha0 (by omega) (hz)) (iI_nr _).symm), Ct.vi (Ct.at (Q_dropTrip0 (m := (up3 (m) 49 0 0 (nrI (-3)))) hF ha0 (by omega) (by rw [kt.2.2.2]; unfold inI; omega) (by rw [kt.2.2.2]; exact hz)) fn.1) (iI_nr _).symm, fn.2.1, fn.2.2.1, fn.2.2.2⟩
  · refine .inr ⟨_, 1, sr (thr m 1) (m 42 0), .inl rfl, by decide, hq_dropTrip_ioE (Px_dropTrip_0 hP hB hT hh0 hh1 ha0 (by omega)), ?_, (fin_x h 1).1, (fin_x h 1).2⟩
    exact Ct.at (Qx_dropTrip_0 (m := m) hF ha0 (by omega)) (sr_self m)
theorem pr_run {G : GG} {m : Mem} {K : Nat} (h : IV m K) (hK : K ≤ 600) {a0 : Int} (ha0 : inI a0) : PO G ML_run ML_run_h MX8_run [.int (iI a0)] m K := by
  have hP := h.1.1
  have hB := h.1.2.1
  have hR := h.1.2.2.1
  have hS := h.1.2.2.2.1
  have h8 := h.1.2.2.2.2.1
  have hT := h.1.2.2.2.2.2.2.1
  have hh0 := h.2.1.1
  have hh1 := h.2.1.2.1
  have hm6 := h.2.1.2.2
  have hF := h.nf
  have E2 : m 42 0 2 = m 0 0 0 := hS.1.1
  have E3 : m 42 0 3 = m 22 0 2 := hR.1.2.2.1
  have E7 : m 42 0 7 = m 1 0 0 := hS.1.2.2.2.2.2.1
  have E8 : m 42 0 8 = m 22 0 6 := hR.1.2.2.2.2.2.2
  have E9 : m 42 0 9 = m 2 0 0 := hS.1.2.2.2.2.2.2
  have n8 := hP.2.2.1
  have n12 := hP.2.2.2.2.2.1
  have nc := hP.2.2.2.2.2.2.1
  have nt := hB.2.2.2.1.1
  have nl := hB.2.2.2.2.1.1
  have t0 := hB.1
  by_cases h0 : 1 ≤ a0 ∧ a0 ≤ min 1000 (9999 - m 0 0 0)
  · have hp := h.1.push
    have hc : ∀ k i, i ≠ 0 ∨ 22 ≤ k → (tkL (pushC m) 0 0 a0.toNat) k i = pushC m k i := fun k i z => by
      by_cases g : i = 0
      · rw [tkL_k (by omega)]
      · rw [tkL_i g]
    have hST : ST (tkL (pushC m) 0 0 a0.toNat) 0 0 (tkNL (m 42 0) a0.toNat) (K + 1) := (hp.ticks a0.toNat (by rw [pushC_0 (by decide)]; omega)).more (by omega)
    have fn := fin_a (cm := (tkL (pushC m) 0 0 a0.toNat)) h hc hST (nrI (tkL (pushC m) 0 0 a0.toNat 0 0 0))
    refine .inl ⟨_, (nrI (tkL (pushC m) 0 0 a0.toNat 0 0 0)), (up3 (tkL (pushC m) 0 0 a0.toNat) 49 0 0 (nrI (tkL (pushC m) 0 0 a0.toNat 0 0 0))), _, .inl rfl, inI_nr _, hq_run (inI_nr _) (Ct.vi (P_run hP hB hT hh0 hh1 ha0 (by omega)) (iI_nr _).symm), Ct.vi (Ct.at (Q_run (m := (up3 (tkL (pushC m) 0 0 a0.toNat) 49 0 0 (nrI (tkL (pushC m) 0 0 a0.toNat 0 0 0)))) hF ha0 (by omega) (by omega) (act_6 h hc _) hP hB hR hS hT (by omega)) fn.1) (by rw [iI_nr]; exact congrArg iI (Eq.symm (hST.2.2.2.1.1.1.symm))), fn.2.1, fn.2.2.1, fn.2.2.2⟩
  · refine .inr ⟨_, 1, sr (thr m 1) (m 42 0), .inl rfl, by decide, hq_run_iaE (Px_run_0 hP hB hT hh0 hh1 ha0 (by omega)), ?_, (fin_x h 1).1, (fin_x h 1).2⟩
    exact Ct.at (Qx_run_0 (m := m) hF ha0 (by omega) (by omega)) (sr_self m)
theorem pr_runToClosed {G : GG} {m : Mem} {K : Nat} (h : IV m K) (hK : K ≤ 600) {a0 a1 : Int} (ha0 : inI a0) (ha1 : inI a1) : PO G ML_runToClosed ML_runToClosed_h MX8_runToClosed [.int (iI a0), .int (iI a1)] m K := by
  have hP := h.1.1
  have hB := h.1.2.1
  have hR := h.1.2.2.1
  have hS := h.1.2.2.2.1
  have h8 := h.1.2.2.2.2.1
  have hT := h.1.2.2.2.2.2.2.1
  have hh0 := h.2.1.1
  have hh1 := h.2.1.2.1
  have hm6 := h.2.1.2.2
  have hF := h.nf
  have E2 : m 42 0 2 = m 0 0 0 := hS.1.1
  have E3 : m 42 0 3 = m 22 0 2 := hR.1.2.2.1
  have E7 : m 42 0 7 = m 1 0 0 := hS.1.2.2.2.2.2.1
  have E8 : m 42 0 8 = m 22 0 6 := hR.1.2.2.2.2.2.2
  have E9 : m 42 0 9 = m 2 0 0 := hS.1.2.2.2.2.2.2
  have n8 := hP.2.2.1
  have n12 := hP.2.2.2.2.2.1
  have nc := hP.2.2.2.2.2.2.1
  have nt := hB.2.2.2.1.1
  have nl := hB.2.2.2.2.1.1
  have t0 := hB.1
  by_cases h0 : 0 ≤ a0 ∧ a0 < m 2 0 0
  · by_cases h1 : 1 ≤ a1 ∧ a1 ≤ 1000
    · have hp := h.1.push
      have ep : pushC m 0 0 0 = m 0 0 0 := by rw [pushC_0 (by decide)]
      have vt := V_te (min a1 (9999 - pushC m 0 0 0)).toNat hp.1 hp.2.1 hp.2.2.1 hp.2.2.2.1 h0.1 (by rw [pushC_0 (by decide)]; exact h0.2) (by rw [ep]; omega)
      have hc : ∀ k i, i ≠ 0 ∨ 22 ≤ k → (teM (pushC m) 0 0 a0 (min a1 (9999 - pushC m 0 0 0)).toNat) k i = pushC m k i := fun k i z => by
        by_cases g : i = 0
        · rw [teM_k (by omega)]
        · rw [teM_i g]
      have hST : ST (teM (pushC m) 0 0 a0 (min a1 (9999 - pushC m 0 0 0)).toNat) 0 0 (enR (m 42 0) a0 (min a1 (9999 - pushC m 0 0 0)).toNat) (K + 1) := (ST.closed _ hp h0.1 (by rw [pushC_0 (by decide)]; exact h0.2) (by rw [ep]; omega)).more (by omega)
      have fn := fin_a (cm := (teM (pushC m) 0 0 a0 (min a1 (9999 - pushC m 0 0 0)).toNat)) h hc hST (nrI (if teM (pushC m) 0 0 a0 (min a1 (9999 - pushC m 0 0 0)).toNat 20 0 a0 ≤ 2 then -1 else teN (pushC m) 0 0 a0 (min a1 (9999 - pushC m 0 0 0)).toNat))
      refine .inl ⟨_, (nrI (if teM (pushC m) 0 0 a0 (min a1 (9999 - pushC m 0 0 0)).toNat 20 0 a0 ≤ 2 then -1 else teN (pushC m) 0 0 a0 (min a1 (9999 - pushC m 0 0 0)).toNat)), (up3 (teM (pushC m) 0 0 a0 (min a1 (9999 - pushC m 0 0 0)).toNat) 49 0 0 (nrI (if teM (pushC m) 0 0 a0 (min a1 (9999 - pushC m 0 0 0)).toNat 20 0 a0 ≤ 2 then -1 else teN (pushC m) 0 0 a0 (min a1 (9999 - pushC m 0 0 0)).toNat))), _, .inl rfl, inI_nr _, hq_runToClosed (inI_nr _) (Ct.vi (P_runToClosed hP hB hT hh0 hh1 ha0 ha1 (by omega) (by omega)) (iI_nr _).symm), Ct.vi (Ct.at (Q_runToClosed (m := (up3 (teM (pushC m) 0 0 a0 (min a1 (9999 - pushC m 0 0 0)).toNat) 49 0 0 (nrI (if teM (pushC m) 0 0 a0 (min a1 (9999 - pushC m 0 0 0)).toNat 20 0 a0 ≤ 2 then -1 else teN (pushC m) 0 0 a0 (min a1 (9999 - pushC m 0 0 0)).toNat)))) hF ha0 ha1 (by omega) (by omega) (act_6 h hc _) (hp.1) (hp.2.1) (hp.2.2.1) (hp.2.2.2.1) (hp.2.2.2.2.2.2.1) ((by rw [pushC_0 (by decide)]; exact h0.2))) fn.1) (by rw [iI_nr]; exact congrArg iI (Eq.symm ((by rw [vt.2.2.1, (hST.2.2.2.1.2.2.2.2.2.2 a0 h0.1 vt.2.2.2).2.2.2.2.2.1])))), fn.2.1, fn.2.2.1, fn.2.2.2⟩
    · refine .inr ⟨_, 2, sr (thr m 2) (m 42 0), .inl rfl, by decide, hq_runToClosed_iaE (Px_runToClosed_1 hP hB hT hh0 hh1 ha0 ha1 (by omega) (by omega)), ?_, (fin_x h 2).1, (fin_x h 2).2⟩
      exact Ct.at (Qx_runToClosed_1 (m := m) hF ha0 ha1 (by omega) (by omega)) (sr_self m)
  · refine .inr ⟨_, 1, sr (thr m 1) (m 42 0), .inl rfl, by decide, hq_runToClosed_ioE (Px_runToClosed_0 hP hB hT hh0 hh1 ha0 ha1 (by omega)), ?_, (fin_x h 1).1, (fin_x h 1).2⟩
    exact Ct.at (Qx_runToClosed_0 (m := m) hF ha0 ha1 (by omega)) (sr_self m)
theorem pr_saveSnapshot {G : GG} {m : Mem} {K : Nat} (h : IV m K) (hK : K ≤ 600) {a0 : Int} (ha0 : inI a0) : PO G ML_saveSnapshot ML_saveSnapshot_h MX8_saveSnapshot [.int (iI a0)] m K := by
  have hP := h.1.1
  have hB := h.1.2.1
  have hR := h.1.2.2.1
  have hS := h.1.2.2.2.1
  have h8 := h.1.2.2.2.2.1
  have hT := h.1.2.2.2.2.2.2.1
  have hh0 := h.2.1.1
  have hh1 := h.2.1.2.1
  have hm6 := h.2.1.2.2
  have hF := h.nf
  have E2 : m 42 0 2 = m 0 0 0 := hS.1.1
  have E3 : m 42 0 3 = m 22 0 2 := hR.1.2.2.1
  have E7 : m 42 0 7 = m 1 0 0 := hS.1.2.2.2.2.2.1
  have E8 : m 42 0 8 = m 22 0 6 := hR.1.2.2.2.2.2.2
  have E9 : m 42 0 9 = m 2 0 0 := hS.1.2.2.2.2.2.2
  have n8 := hP.2.2.1
  have n12 := hP.2.2.2.2.2.1
  have nc := hP.2.2.2.2.2.2.1
  have nt := hB.2.2.2.1.1
  have nl := hB.2.2.2.2.1.1
  have t0 := hB.1
  by_cases h0 : 0 ≤ a0 ∧ a0 ≤ 1
  · have fn := fin_v h h0 (nrI (m 0 0 0))
    refine .inl ⟨_, (nrI (m 0 0 0)), (up3 (up3 (cpS (cpP m 0 (1 + a0.toNat)) 0 (2 + a0.toNat)) 40 0 a0 1) 49 0 0 (nrI (m 0 0 0))), _, .inl rfl, inI_nr _, hq_saveSnapshot (inI_nr _) (Ct.vi (P_saveSnapshot hP hB hT hh0 hh1 ha0 (by omega)) (iI_nr _).symm), Ct.vi (Ct.at (Q_saveSnapshot (m := (up3 (up3 (cpS (cpP m 0 (1 + a0.toNat)) 0 (2 + a0.toNat)) 40 0 a0 1) 49 0 0 (nrI (m 0 0 0)))) hF ha0 (by omega)) fn.1) (by rw [iI_nr]; exact congrArg iI (Eq.symm (E2.symm))), fn.2.1, fn.2.2.1, fn.2.2.2⟩
  · refine .inr ⟨_, 1, sr (thr m 1) (m 42 0), .inl rfl, by decide, hq_saveSnapshot_iaE (Px_saveSnapshot_0 hP hB hT hh0 hh1 ha0 (by omega)), ?_, (fin_x h 1).1, (fin_x h 1).2⟩
    exact Ct.at (Qx_saveSnapshot_0 (m := m) hF ha0 (by omega)) (sr_self m)
theorem pr_restoreSnapshot {G : GG} {m : Mem} {K : Nat} (h : IV m K) (hK : K ≤ 600) {a0 : Int} (ha0 : inI a0) : PO G ML_restoreSnapshot ML_restoreSnapshot_h MX8_restoreSnapshot [.int (iI a0)] m K := by
  have hP := h.1.1
  have hB := h.1.2.1
  have hR := h.1.2.2.1
  have hS := h.1.2.2.2.1
  have h8 := h.1.2.2.2.2.1
  have hT := h.1.2.2.2.2.2.2.1
  have hh0 := h.2.1.1
  have hh1 := h.2.1.2.1
  have hm6 := h.2.1.2.2
  have hF := h.nf
  have E2 : m 42 0 2 = m 0 0 0 := hS.1.1
  have E3 : m 42 0 3 = m 22 0 2 := hR.1.2.2.1
  have E7 : m 42 0 7 = m 1 0 0 := hS.1.2.2.2.2.2.1
  have E8 : m 42 0 8 = m 22 0 6 := hR.1.2.2.2.2.2.2
  have E9 : m 42 0 9 = m 2 0 0 := hS.1.2.2.2.2.2.2
  have n8 := hP.2.2.1
  have n12 := hP.2.2.2.2.2.1
  have nc := hP.2.2.2.2.2.2.1
  have nt := hB.2.2.2.1.1
  have nl := hB.2.2.2.2.1.1
  have t0 := hB.1
  by_cases h0 : 0 ≤ a0 ∧ a0 ≤ 1
  · have q4 := h.2.2.2.1 a0.toNat (by omega)
    have es : ((a0.toNat : Nat) : Int) = a0 := by omega
    rw [es] at q4
    have q40 : m 40 0 a0 = 0 ∨ m 40 0 a0 = 1 := by
      rcases q4.2 with z | z
      · exact .inl z
      · exact .inr z.1
    have hi : inI (m 40 0 a0) := by unfold inI; omega
    have hi7 : inI (m 47 0 a0) := by rw [q4.1]; exact hi
    by_cases hz : m 40 0 a0 = 0
    · have fn := fin_r (cm := (m)) h (Kp.r m) (nrI (-1))
      refine .inl ⟨_, (nrI (-1)), (up3 (m) 49 0 0 (nrI (-1))), _, .inl rfl, inI_nr _, hq_restoreSnapshot (inI_nr _) (Ct.vi (P_restoreSnapshot0 hP hB hT hh0 hh1 ha0 (by omega) (hz)) (iI_nr _).symm), Ct.vi (Ct.at (Q_restoreSnapshot0 (m := (up3 (m) 49 0 0 (nrI (-1)))) hF ha0 (by omega) (by rw [up3_k (by decide)]; exact hi7) (by rw [up3_k (by decide), q4.1]; exact hz)) fn.1) (iI_nr _).symm, fn.2.1, fn.2.2.1, fn.2.2.2⟩
    · have fn := fin_u h h0 hz (nrI (m 0 (2 + a0.toNat) 0)) (up3 (up3 (cpS (cpP m (1 + a0.toNat) 0) (2 + a0.toNat) 0) 36 0 0 0) 49 0 0 (nrI (m 0 (2 + a0.toNat) 0))) rfl
      refine .inl ⟨_, (nrI (m 0 (2 + a0.toNat) 0)), (up3 (up3 (cpS (cpP m (1 + a0.toNat) 0) (2 + a0.toNat) 0) 36 0 0 0) 49 0 0 (nrI (m 0 (2 + a0.toNat) 0))), _, .inl rfl, inI_nr _, hq_restoreSnapshot (inI_nr _) (Ct.vi (P_restoreSnapshot1 hP hB hT hh0 hh1 ha0 (by omega) (hi) (hz)) (iI_nr _).symm), Ct.vi (Ct.at (Q_restoreSnapshot1 (m := (up3 (up3 (cpS (cpP m (1 + a0.toNat) 0) (2 + a0.toNat) 0) 36 0 0 0) 49 0 0 (nrI (m 0 (2 + a0.toNat) 0)))) hF ha0 (by omega) (by rw [up3_k (by decide), rsC_47]; exact hi7) (by rw [up3_k (by decide), rsC_47, q4.1]; exact hz)) fn.1) (by rw [iI_nr]; exact congrArg iI (Eq.symm (fn.2.2.2.2.symm))), fn.2.1, fn.2.2.1, fn.2.2.2.1⟩
  · refine .inr ⟨_, 1, sr (thr m 1) (m 42 0), .inl rfl, by decide, hq_restoreSnapshot_iaE (Px_restoreSnapshot_0 hP hB hT hh0 hh1 ha0 (by omega)), ?_, (fin_x h 1).1, (fin_x h 1).2⟩
    exact Ct.at (Qx_restoreSnapshot_0 (m := m) hF ha0 (by omega)) (sr_self m)
