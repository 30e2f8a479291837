theorem BPS_move {m m1 : Mem} {p s s1 : Nat} (e : ∀ k, k < 22 → m1 k s1 = m k s) (e2 : ∀ k, 22 ≤ k → k < 33 → m1 k p = m k p) (hP : BP m p) (hB : BS m p s) : BP m1 p ∧ BS m1 p s1 := by
  refine ⟨hP.congr e2, ?_⟩
  have q22 := e2 22 (by decide) (by decide)
  have q23 := e2 23 (by decide) (by decide)
  unfold BS Bq Bc Bt Bl roomC intC at *
  simp only [q22, q23, e 0 (by decide), e 1 (by decide), e 2 (by decide), e 3 (by decide), e 4 (by decide), e 5 (by decide), e 6 (by decide), e 7 (by decide), e 8 (by decide), e 10 (by decide), e 11 (by decide), e 12 (by decide), e 13 (by decide), e 14 (by decide), e 15 (by decide), e 16 (by decide), e 17 (by decide), e 18 (by decide), e 19 (by decide), e 20 (by decide), e 21 (by decide)]
  exact hB
theorem push_k {m : Mem} {k : Nat} (h : k ≠ 36) : pushC m k 0 = m k 0 := by
  unfold pushC
  rw [up3_ne (fun q => h q.1), up3_ne (fun q => h q.1), cpS_i (by omega)]
theorem push_f {m : Mem} (hP : BP m 0) (hB : BS m 0 0) : BP (pushC m) 0 ∧ BS (pushC m) 0 0 := BPS_move (fun k h => push_k (by omega)) (fun k h1 h2 => push_k (by omega)) hP hB
theorem fut_k {m : Mem} {k : Nat} (h : k < 22) (h9 : k ∈ inS) : cpS m 0 1 k 1 = m k 0 := cpS_at h9
theorem inS_all {k : Nat} (h : k < 22) : k ∈ inS := by
  have : ∀ k : Fin 22, (k : Nat) ∈ inS := by decide
  exact this ⟨k, h⟩
theorem inS_not {k : Nat} (h : 22 ≤ k) : k ∉ inS := by
  intro hk
  have : ∀ k ∈ inS, k < 22 := by decide
  have := this k hk
  omega
theorem fut_f {m : Mem} (hP : BP m 0) (hB : BS m 0 0) : BP (cpS m 0 1) 0 ∧ BS (cpS m 0 1) 0 1 := BPS_move (fun k h => cpS_at (inS_all h)) (fun k h1 _ => by rw [cpS_k (inS_not h1)]) hP hB
theorem hinC_in (m : Mem) (p s : Nat) (c x : Int) : inI (hinC m p s c x) := by
  unfold hinC inI
  split <;> (first | omega | (split <;> (first | omega | (split <;> (first | omega | (split <;> omega))))))
theorem hinC_lt {m : Mem} {p s : Nat} {c x : Int} (h : hinC m p s c x = 0) : m 2 s 0 < 16 := by
  unfold hinC at h
  split at h <;> (first | omega | (split at h <;> (first | omega | (split at h <;> (first | omega | (split at h <;> omega))))))
theorem LF_brF {m : Mem} {p s : Nat} {l l' t : Int} (h : LF m p s l) : LF (brF m s l' t) p s l := by
  unfold brF
  split
  · exact h
  · exact h
theorem P_lend0 {G : GG} {m : Mem} (hP : BP m 0) (hB : BS m 0 0) (hT : m 0 0 0 ≤ 9999) (hh0 : 0 ≤ m 36 0 0 ∧ m 36 0 0 ≤ 8) (hh1 : 0 ≤ m 36 0 1 ∧ m 36 0 1 < 8) {a0 a1 a2 : Int} (ha0 : inI a0) (ha1 : inI a1) (ha2 : inI a2) (h0 : 0 ≤ a0 ∧ a0 < m 22 0 6) (h1 : 1 ≤ a1 ∧ a1 ≤ 100000) (h2 : 1 ≤ a2 ∧ a2 ≤ 999) (hz : hinC m 0 0 a0 a1 ≠ 0) : Ct G MX7_lend (rmD 9) [rf G 38 0, .int (iI a0), .int (iI a1), .int (iI a2)] (hp (m)) (.inl (some (.int (iI (-10 - hinC m 0 0 a0 a1))))) (hp (m)) := by
  refine x_entry (by decide +kernel) mwX7_lend rfl (Nat.le_of_ble_eq_true rfl) ?_
  show X G MX7_lend (rmD 9) 0 [(0, rf G 38 0), (1, .int (iI a0)), (2, .int (iI a1)), (3, .int (iI a2))] [] (hp (m)) 0 0 (.inl (some (.int (iI (-10 - hinC m 0 0 a0 a1))))) (hp (m))
  have n8 := hP.2.2.1
  have n4 := hP.2.2.2.1
  have n12 := hP.2.2.2.2.2.1
  have nc8 := hP.2.2.2.2.2.2.1
  have tb := hB.1
  have nt16 := hB.2.2.2.1.1
  have nl16 := hB.2.2.2.2.1.1
  refine x_iload_n (pc := 0) dX7_lend_0 1 rfl ?_
  refine x_aload_n (pc := 1) dX7_lend_1 0 rfl ?_
  refine y_getR (pc := 2) dX7_lend_2 flX7_15 rfl rfl rfl (by decide) ?_
  refine y_getR (pc := 5) (b := 0) dX7_lend_5 flX7_21 rfl rfl rfl (by decide) ?_
  refine y_getI (pc := 8) 6 dX7_lend_8 flX7_108 rfl rfl rfl (by decide) ?_
  refine x_callS (pc := 11) _ dX7_lend_11 (ct_ckI ha0 (by unfold inI; omega) h0) lkX7_123 rfl (by decide) (Nat.le_of_ble_eq_true rfl) rfl ?_
  refine x_iload_n (pc := 14) dX7_lend_14 2 rfl ?_
  refine x_iconst (pc := 15) dX7_lend_15 ?_
  refine x_ldc (pc := 16) (z := 100000) dX7_lend_16 kcX7_249 (by decide) ?_
  refine x_callS (pc := 18) _ dX7_lend_18 (ct_ckR ha1 (by unfold inI; omega) (by unfold inI; omega) h1) lkX7_80 rfl (by decide) (Nat.le_of_ble_eq_true rfl) rfl ?_
  refine x_iload_n (pc := 21) dX7_lend_21 3 rfl ?_
  refine x_iconst (pc := 22) dX7_lend_22 ?_
  refine x_sipush (pc := 23) (z := 999) dX7_lend_23 (by decide) ?_
  refine x_callS (pc := 26) _ dX7_lend_26 (ct_ckR ha2 (by unfold inI; omega) (by unfold inI; omega) h2) lkX7_80 rfl (by decide) (Nat.le_of_ble_eq_true rfl) rfl ?_
  refine x_aload_n (pc := 29) dX7_lend_29 0 rfl ?_
  refine y_getR (pc := 30) dX7_lend_30 flX7_15 rfl rfl rfl (by decide) ?_
  refine x_iload_n (pc := 33) dX7_lend_33 1 rfl ?_
  refine x_iload_n (pc := 34) dX7_lend_34 2 rfl ?_
  refine x_callV (pc := 35) _ dX7_lend_35 (ct_hindranceOf (w := 0) (by decide) a0 a1 hP hB h0 (by omega)) lkX7_253 rfl rfl rfl rfl (mem_dom0 (by decide) (by decide)) (by decide) (Nat.le_of_ble_eq_true rfl) rfl ?_
  refine x_istore (pc := 38) (lv' := [(4, _), (0, _), (1, _), (2, _), (3, _)]) dX7_lend_38 (by decide) rfl ?_
  refine x_iload (pc := 40) dX7_lend_40 0 rfl ?_
  refine x_if_eq (pc := 42) 51 dX7_lend_42 (by decide) (hinC_in _ _ _ _ _) (fun c_42 => absurd c_42 hz) (fun c_42 => ?_)
  refine x_bipush (pc := 45) (z := (-10)) dX7_lend_45 (by decide) ?_
  refine x_iload (pc := 47) dX7_lend_47 0 rfl ?_
  refine x_isub (pc := 49) dX7_lend_49 ?_
  exact y_iret (pc := 50) dX7_lend_50 rfl rfl rfl
theorem Px_lend_0 {G : GG} {m : Mem} (hP : BP m 0) (hB : BS m 0 0) (hT : m 0 0 0 ≤ 9999) (hh0 : 0 ≤ m 36 0 0 ∧ m 36 0 0 ≤ 8) (hh1 : 0 ≤ m 36 0 1 ∧ m 36 0 1 < 8) {a0 a1 a2 : Int} (ha0 : inI a0) (ha1 : inI a1) (ha2 : inI a2)  (h0 : ¬ (0 ≤ a0 ∧ a0 < m 22 0 6)) : Ct G MX7_lend (rmE 1) [rf G 38 0, .int (iI a0), .int (iI a1), .int (iI a2)] (hp (m)) (.inr ioE) (hp (m)) := by
  refine x_entry (by decide +kernel) mwX7_lend rfl (Nat.le_of_ble_eq_true rfl) ?_
  show X G MX7_lend (rmE 1) 0 [(0, rf G 38 0), (1, .int (iI a0)), (2, .int (iI a1)), (3, .int (iI a2))] [] (hp (m)) 0 0 (.inr ioE) (hp (m))
  have n8 := hP.2.2.1
  have n4 := hP.2.2.2.1
  have n12 := hP.2.2.2.2.2.1
  have nc8 := hP.2.2.2.2.2.2.1
  have tb := hB.1
  have nt16 := hB.2.2.2.1.1
  have nl16 := hB.2.2.2.2.1.1
  refine x_iload_n (pc := 0) dX7_lend_0 1 rfl ?_
  refine x_aload_n (pc := 1) dX7_lend_1 0 rfl ?_
  refine y_getR (pc := 2) dX7_lend_2 flX7_15 rfl rfl rfl (by decide) ?_
  refine y_getR (pc := 5) (b := 0) dX7_lend_5 flX7_21 rfl rfl rfl (by decide) ?_
  refine y_getI (pc := 8) 6 dX7_lend_8 flX7_108 rfl rfl rfl (by decide) ?_
  exact x_callSX (pc := 11) _ dX7_lend_11 (ct_ckIx ha0 (by unfold inI; omega) h0) lkX7_123 rfl rfl (by decide) (Nat.le_of_ble_eq_true rfl) rfl
theorem Px_lend_1 {G : GG} {m : Mem} (hP : BP m 0) (hB : BS m 0 0) (hT : m 0 0 0 ≤ 9999) (hh0 : 0 ≤ m 36 0 0 ∧ m 36 0 0 ≤ 8) (hh1 : 0 ≤ m 36 0 1 ∧ m 36 0 1 < 8) {a0 a1 a2 : Int} (ha0 : inI a0) (ha1 : inI a1) (ha2 : inI a2) (h0 : 0 ≤ a0 ∧ a0 < m 22 0 6) (h1 : ¬ (1 ≤ a1 ∧ a1 ≤ 100000)) : Ct G MX7_lend (rmE 1) [rf G 38 0, .int (iI a0), .int (iI a1), .int (iI a2)] (hp (m)) (.inr iaE) (hp (m)) := by
  refine x_entry (by decide +kernel) mwX7_lend rfl (Nat.le_of_ble_eq_true rfl) ?_
  show X G MX7_lend (rmE 1) 0 [(0, rf G 38 0), (1, .int (iI a0)), (2, .int (iI a1)), (3, .int (iI a2))] [] (hp (m)) 0 0 (.inr iaE) (hp (m))
  have n8 := hP.2.2.1
  have n4 := hP.2.2.2.1
  have n12 := hP.2.2.2.2.2.1
  have nc8 := hP.2.2.2.2.2.2.1
  have tb := hB.1
  have nt16 := hB.2.2.2.1.1
  have nl16 := hB.2.2.2.2.1.1
  refine x_iload_n (pc := 0) dX7_lend_0 1 rfl ?_
  refine x_aload_n (pc := 1) dX7_lend_1 0 rfl ?_
  refine y_getR (pc := 2) dX7_lend_2 flX7_15 rfl rfl rfl (by decide) ?_
  refine y_getR (pc := 5) (b := 0) dX7_lend_5 flX7_21 rfl rfl rfl (by decide) ?_
  refine y_getI (pc := 8) 6 dX7_lend_8 flX7_108 rfl rfl rfl (by decide) ?_
  refine x_callS (pc := 11) _ dX7_lend_11 (ct_ckI ha0 (by unfold inI; omega) h0) lkX7_123 rfl (by decide) (Nat.le_of_ble_eq_true rfl) rfl ?_
  refine x_iload_n (pc := 14) dX7_lend_14 2 rfl ?_
  refine x_iconst (pc := 15) dX7_lend_15 ?_
  refine x_ldc (pc := 16) (z := 100000) dX7_lend_16 kcX7_249 (by decide) ?_
  exact x_callSX (pc := 18) _ dX7_lend_18 (ct_ckRx ha1 (by unfold inI; omega) (by unfold inI; omega) h1) lkX7_80 rfl rfl (by decide) (Nat.le_of_ble_eq_true rfl) rfl
theorem Px_lend_2 {G : GG} {m : Mem} (hP : BP m 0) (hB : BS m 0 0) (hT : m 0 0 0 ≤ 9999) (hh0 : 0 ≤ m 36 0 0 ∧ m 36 0 0 ≤ 8) (hh1 : 0 ≤ m 36 0 1 ∧ m 36 0 1 < 8) {a0 a1 a2 : Int} (ha0 : inI a0) (ha1 : inI a1) (ha2 : inI a2) (h0 : 0 ≤ a0 ∧ a0 < m 22 0 6) (h1 : 1 ≤ a1 ∧ a1 ≤ 100000) (h2 : ¬ (1 ≤ a2 ∧ a2 ≤ 999)) : Ct G MX7_lend (rmE 1) [rf G 38 0, .int (iI a0), .int (iI a1), .int (iI a2)] (hp (m)) (.inr iaE) (hp (m)) := by
  refine x_entry (by decide +kernel) mwX7_lend rfl (Nat.le_of_ble_eq_true rfl) ?_
  show X G MX7_lend (rmE 1) 0 [(0, rf G 38 0), (1, .int (iI a0)), (2, .int (iI a1)), (3, .int (iI a2))] [] (hp (m)) 0 0 (.inr iaE) (hp (m))
  have n8 := hP.2.2.1
  have n4 := hP.2.2.2.1
  have n12 := hP.2.2.2.2.2.1
  have nc8 := hP.2.2.2.2.2.2.1
  have tb := hB.1
  have nt16 := hB.2.2.2.1.1
  have nl16 := hB.2.2.2.2.1.1
  refine x_iload_n (pc := 0) dX7_lend_0 1 rfl ?_
  refine x_aload_n (pc := 1) dX7_lend_1 0 rfl ?_
  refine y_getR (pc := 2) dX7_lend_2 flX7_15 rfl rfl rfl (by decide) ?_
  refine y_getR (pc := 5) (b := 0) dX7_lend_5 flX7_21 rfl rfl rfl (by decide) ?_
  refine y_getI (pc := 8) 6 dX7_lend_8 flX7_108 rfl rfl rfl (by decide) ?_
  refine x_callS (pc := 11) _ dX7_lend_11 (ct_ckI ha0 (by unfold inI; omega) h0) lkX7_123 rfl (by decide) (Nat.le_of_ble_eq_true rfl) rfl ?_
  refine x_iload_n (pc := 14) dX7_lend_14 2 rfl ?_
  refine x_iconst (pc := 15) dX7_lend_15 ?_
  refine x_ldc (pc := 16) (z := 100000) dX7_lend_16 kcX7_249 (by decide) ?_
  refine x_callS (pc := 18) _ dX7_lend_18 (ct_ckR ha1 (by unfold inI; omega) (by unfold inI; omega) h1) lkX7_80 rfl (by decide) (Nat.le_of_ble_eq_true rfl) rfl ?_
  refine x_iload_n (pc := 21) dX7_lend_21 3 rfl ?_
  refine x_iconst (pc := 22) dX7_lend_22 ?_
  refine x_sipush (pc := 23) (z := 999) dX7_lend_23 (by decide) ?_
  exact x_callSX (pc := 26) _ dX7_lend_26 (ct_ckRx ha2 (by unfold inI; omega) (by unfold inI; omega) h2) lkX7_80 rfl rfl (by decide) (Nat.le_of_ble_eq_true rfl) rfl
theorem P_lend1 {G : GG} {m : Mem} (hP : BP m 0) (hB : BS m 0 0) (hT : m 0 0 0 ≤ 9999) (hh0 : 0 ≤ m 36 0 0 ∧ m 36 0 0 ≤ 8) (hh1 : 0 ≤ m 36 0 1 ∧ m 36 0 1 < 8) {a0 a1 a2 : Int} (ha0 : inI a0) (ha1 : inI a1) (ha2 : inI a2) (h0 : 0 ≤ a0 ∧ a0 < m 22 0 6) (h1 : 1 ≤ a1 ∧ a1 ≤ 100000) (h2 : 1 ≤ a2 ∧ a2 ≤ 999) (hz : hinC m 0 0 a0 a1 = 0) : Ct G MX7_lend (rmD 9) [rf G 38 0, .int (iI a0), .int (iI a1), .int (iI a2)] (hp (m)) (.inl (some (.int (iI (pushC m 2 0 0))))) (hp (addL (pushC m) 0 a0 a1 (pushC m 0 0 0 + a2))) := by
  refine x_entry (by decide +kernel) mwX7_lend rfl (Nat.le_of_ble_eq_true rfl) ?_
  show X G MX7_lend (rmD 9) 0 [(0, rf G 38 0), (1, .int (iI a0)), (2, .int (iI a1)), (3, .int (iI a2))] [] (hp (m)) 0 0 (.inl (some (.int (iI (pushC m 2 0 0))))) (hp (addL (pushC m) 0 a0 a1 (pushC m 0 0 0 + a2)))
  have n8 := hP.2.2.1
  have n4 := hP.2.2.2.1
  have n12 := hP.2.2.2.2.2.1
  have nc8 := hP.2.2.2.2.2.2.1
  have tb := hB.1
  have nt16 := hB.2.2.2.1.1
  have nl16 := hB.2.2.2.2.1.1
  refine x_iload_n (pc := 0) dX7_lend_0 1 rfl ?_
  refine x_aload_n (pc := 1) dX7_lend_1 0 rfl ?_
  refine y_getR (pc := 2) dX7_lend_2 flX7_15 rfl rfl rfl (by decide) ?_
  refine y_getR (pc := 5) (b := 0) dX7_lend_5 flX7_21 rfl rfl rfl (by decide) ?_
  refine y_getI (pc := 8) 6 dX7_lend_8 flX7_108 rfl rfl rfl (by decide) ?_
  refine x_callS (pc := 11) _ dX7_lend_11 (ct_ckI ha0 (by unfold inI; omega) h0) lkX7_123 rfl (by decide) (Nat.le_of_ble_eq_true rfl) rfl ?_
  refine x_iload_n (pc := 14) dX7_lend_14 2 rfl ?_
  refine x_iconst (pc := 15) dX7_lend_15 ?_
  refine x_ldc (pc := 16) (z := 100000) dX7_lend_16 kcX7_249 (by decide) ?_
  refine x_callS (pc := 18) _ dX7_lend_18 (ct_ckR ha1 (by unfold inI; omega) (by unfold inI; omega) h1) lkX7_80 rfl (by decide) (Nat.le_of_ble_eq_true rfl) rfl ?_
  refine x_iload_n (pc := 21) dX7_lend_21 3 rfl ?_
  refine x_iconst (pc := 22) dX7_lend_22 ?_
  refine x_sipush (pc := 23) (z := 999) dX7_lend_23 (by decide) ?_
  refine x_callS (pc := 26) _ dX7_lend_26 (ct_ckR ha2 (by unfold inI; omega) (by unfold inI; omega) h2) lkX7_80 rfl (by decide) (Nat.le_of_ble_eq_true rfl) rfl ?_
  refine x_aload_n (pc := 29) dX7_lend_29 0 rfl ?_
  refine y_getR (pc := 30) dX7_lend_30 flX7_15 rfl rfl rfl (by decide) ?_
  refine x_iload_n (pc := 33) dX7_lend_33 1 rfl ?_
  refine x_iload_n (pc := 34) dX7_lend_34 2 rfl ?_
  refine x_callV (pc := 35) _ dX7_lend_35 (ct_hindranceOf (w := 0) (by decide) a0 a1 hP hB h0 (by omega)) lkX7_253 rfl rfl rfl rfl (mem_dom0 (by decide) (by decide)) (by decide) (Nat.le_of_ble_eq_true rfl) rfl ?_
  refine x_istore (pc := 38) (lv' := [(4, _), (0, _), (1, _), (2, _), (3, _)]) dX7_lend_38 (by decide) rfl ?_
  refine x_iload (pc := 40) dX7_lend_40 0 rfl ?_
  refine x_if_eq (pc := 42) 51 dX7_lend_42 (by decide) (hinC_in _ _ _ _ _) (fun c_42 => ?_) (fun c_42 => absurd c_42 (fun z => z hz))
  refine x_aload_n (pc := 51) dX7_lend_51 1 rfl ?_
  refine y_getR (pc := 52) dX7_lend_52 flX7_38 rfl rfl rfl (by decide) ?_
  refine x_aload_n (pc := 55) dX7_lend_55 1 rfl ?_
  refine y_getR (pc := 56) dX7_lend_56 flX7_15 rfl rfl rfl (by decide) ?_
  refine y_getR (pc := 59) (b := 0) dX7_lend_59 flX7_93 rfl rfl rfl (by decide) ?_
  refine x_callV (pc := 62) _ dX7_lend_62 (ct_push hh0 hh1) lkX7_259 rfl rfl rfl rfl (mem_dom0 (by decide) (by decide)) (by decide) (Nat.le_of_ble_eq_true rfl) rfl ?_
  have hf2 := push_f hP hB
  have hP2 := hf2.1
  have hB2 := hf2.2
  have k0 : pushC m 0 0 = m 0 0 := push_k (by decide)
  have k1 : pushC m 1 0 = m 1 0 := push_k (by decide)
  have k2 : pushC m 2 0 = m 2 0 := push_k (by decide)
  have k3 : pushC m 3 0 = m 3 0 := push_k (by decide)
  have k22 : pushC m 22 0 = m 22 0 := push_k (by decide)
  have j2 : pushC m 2 0 0 = m 2 0 0 := by rw [k2]
  have j1 : pushC m 1 0 0 = m 1 0 0 := by rw [k1]
  have j22 : pushC m 22 0 2 = m 22 0 2 := by rw [k22]
  have j226 : pushC m 22 0 6 = m 22 0 6 := by rw [k22]
  have j0 : pushC m 0 0 0 = m 0 0 0 := by rw [k0]
  have h16 := hinC_lt hz
  refine x_aload_n (pc := 65) dX7_lend_65 1 rfl ?_
  refine y_getR (pc := 66) dX7_lend_66 flX7_15 rfl rfl rfl (by decide) ?_
  refine y_getR (pc := 69) (b := 0) dX7_lend_69 flX7_93 rfl rfl rfl (by decide) ?_
  refine y_getR (pc := 72) dX7_lend_72 flX7_111 rfl rfl rfl (by decide) ?_
  refine x_iload_n (pc := 75) dX7_lend_75 2 rfl ?_
  refine x_iload_n (pc := 76) dX7_lend_76 3 rfl ?_
  refine x_aload_n (pc := 77) dX7_lend_77 1 rfl ?_
  refine y_getR (pc := 78) dX7_lend_78 flX7_15 rfl rfl rfl (by decide) ?_
  refine y_getR (pc := 81) (b := 0) dX7_lend_81 flX7_93 rfl rfl rfl (by decide) ?_
  refine y_getI (pc := 84) 0 dX7_lend_84 flX7_233 rfl rfl rfl (by decide) ?_
  refine x_iload_n (pc := 87) dX7_lend_87 4 rfl ?_
  refine x_iadd (pc := 88) dX7_lend_88 ?_
  refine x_callV (pc := 89) _ dX7_lend_89 (ct_addL (s := 0) (by decide) a0 a1 (pushC m 0 0 0 + a2) (by omega)) lkX7_263 rfl rfl rfl rfl (mem_dom0 (by decide) (by decide)) (by decide) (Nat.le_of_ble_eq_true rfl) rfl ?_
  exact y_iret (pc := 92) dX7_lend_92 rfl rfl rfl
theorem P_recall0 {G : GG} {m : Mem} (hP : BP m 0) (hB : BS m 0 0) (hT : m 0 0 0 ≤ 9999) (hh0 : 0 ≤ m 36 0 0 ∧ m 36 0 0 ≤ 8) (hh1 : 0 ≤ m 36 0 1 ∧ m 36 0 1 < 8) {a0 : Int} (ha0 : inI a0) (h0 : 0 ≤ a0 ∧ a0 < m 2 0 0) (hz : ¬ m 20 0 a0 ≤ 2) : Ct G MX7_recall (rmD 9) [rf G 38 0, .int (iI a0)] (hp (m)) (.inl (some (.int (iI (-3))))) (hp (m)) := by
  refine x_entry (by decide +kernel) mwX7_recall rfl (Nat.le_of_ble_eq_true rfl) ?_
  show X G MX7_recall (rmD 9) 0 [(0, rf G 38 0), (1, .int (iI a0))] [] (hp (m)) 0 0 (.inl (some (.int (iI (-3))))) (hp (m))
  have n8 := hP.2.2.1
  have n4 := hP.2.2.2.1
  have n12 := hP.2.2.2.2.2.1
  have nc8 := hP.2.2.2.2.2.2.1
  have tb := hB.1
  have nt16 := hB.2.2.2.1.1
  have nl16 := hB.2.2.2.2.1.1
  have lb := hB.2.2.2.2.1.2 a0 h0.1 h0.2
  have lb5 := lb.2.2.2.2.2.1
  refine x_iload_n (pc := 0) dX7_recall_0 1 rfl ?_
  refine x_aload_n (pc := 1) dX7_recall_1 0 rfl ?_
  refine y_getR (pc := 2) dX7_recall_2 flX7_15 rfl rfl rfl (by decide) ?_
  refine y_getR (pc := 5) (b := 0) dX7_recall_5 flX7_93 rfl rfl rfl (by decide) ?_
  refine y_getR (pc := 8) dX7_recall_8 flX7_111 rfl rfl rfl (by decide) ?_
  refine y_getI (pc := 11) 0 dX7_recall_11 flX7_115 rfl rfl rfl (by decide) ?_
  refine x_callS (pc := 14) _ dX7_recall_14 (ct_ckI ha0 (by unfold inI; omega) h0) lkX7_123 rfl (by decide) (Nat.le_of_ble_eq_true rfl) rfl ?_
  refine x_aload_n (pc := 17) dX7_recall_17 0 rfl ?_
  refine y_getR (pc := 18) dX7_recall_18 flX7_15 rfl rfl rfl (by decide) ?_
  refine y_getR (pc := 21) (b := 0) dX7_recall_21 flX7_93 rfl rfl rfl (by decide) ?_
  refine y_getR (pc := 24) dX7_recall_24 flX7_111 rfl rfl rfl (by decide) ?_
  refine x_iload_n (pc := 27) dX7_recall_27 1 rfl ?_
  refine x_callV (pc := 28) _ dX7_recall_28 (ct_isOpen (s := 0) (by decide) a0 (by omega) (by unfold inI; omega)) lkX7_267 rfl rfl rfl rfl (mem_dom0 (by decide) (by decide)) (by decide) (Nat.le_of_ble_eq_true rfl) rfl ?_
  refine x_ifb_ne (pc := 31) 37 dX7_recall_31 (by decide) (fun c_31 => absurd c_31 hz) (fun c_31 => ?_)
  refine x_bipush (pc := 34) (z := (-3)) dX7_recall_34 (by decide) ?_
  exact y_iret (pc := 36) dX7_recall_36 rfl rfl rfl
theorem Px_recall_0 {G : GG} {m : Mem} (hP : BP m 0) (hB : BS m 0 0) (hT : m 0 0 0 ≤ 9999) (hh0 : 0 ≤ m 36 0 0 ∧ m 36 0 0 ≤ 8) (hh1 : 0 ≤ m 36 0 1 ∧ m 36 0 1 < 8) {a0 : Int} (ha0 : inI a0)  (h0 : ¬ (0 ≤ a0 ∧ a0 < m 2 0 0)) : Ct G MX7_recall (rmE 1) [rf G 38 0, .int (iI a0)] (hp (m)) (.inr ioE) (hp (m)) := by
  refine x_entry (by decide +kernel) mwX7_recall rfl (Nat.le_of_ble_eq_true rfl) ?_
  show X G MX7_recall (rmE 1) 0 [(0, rf G 38 0), (1, .int (iI a0))] [] (hp (m)) 0 0 (.inr ioE) (hp (m))
  have n8 := hP.2.2.1
  have n4 := hP.2.2.2.1
  have n12 := hP.2.2.2.2.2.1
  have nc8 := hP.2.2.2.2.2.2.1
  have tb := hB.1
  have nt16 := hB.2.2.2.1.1
  have nl16 := hB.2.2.2.2.1.1
  refine x_iload_n (pc := 0) dX7_recall_0 1 rfl ?_
  refine x_aload_n (pc := 1) dX7_recall_1 0 rfl ?_
  refine y_getR (pc := 2) dX7_recall_2 flX7_15 rfl rfl rfl (by decide) ?_
  refine y_getR (pc := 5) (b := 0) dX7_recall_5 flX7_93 rfl rfl rfl (by decide) ?_
  refine y_getR (pc := 8) dX7_recall_8 flX7_111 rfl rfl rfl (by decide) ?_
  refine y_getI (pc := 11) 0 dX7_recall_11 flX7_115 rfl rfl rfl (by decide) ?_
  exact x_callSX (pc := 14) _ dX7_recall_14 (ct_ckIx ha0 (by unfold inI; omega) h0) lkX7_123 rfl rfl (by decide) (Nat.le_of_ble_eq_true rfl) rfl
theorem P_recall1 {G : GG} {m : Mem} (hP : BP m 0) (hB : BS m 0 0) (hT : m 0 0 0 ≤ 9999) (hh0 : 0 ≤ m 36 0 0 ∧ m 36 0 0 ≤ 8) (hh1 : 0 ≤ m 36 0 1 ∧ m 36 0 1 < 8) {a0 : Int} (ha0 : inI a0) (h0 : 0 ≤ a0 ∧ a0 < m 2 0 0) (hz : m 20 0 a0 ≤ 2) : Ct G MX7_recall (rmD 9) [rf G 38 0, .int (iI a0)] (hp (m)) (.inl (some (.int (iI ((brF (pushC m) 0 a0 (pushC m 0 0 0 + pushC m 31 0 (pushC m 15 0 a0))) 21 0 a0))))) (hp (brF (pushC m) 0 a0 (pushC m 0 0 0 + pushC m 31 0 (pushC m 15 0 a0)))) := by
  refine x_entry (by decide +kernel) mwX7_recall rfl (Nat.le_of_ble_eq_true rfl) ?_
  show X G MX7_recall (rmD 9) 0 [(0, rf G 38 0), (1, .int (iI a0))] [] (hp (m)) 0 0 (.inl (some (.int (iI ((brF (pushC m) 0 a0 (pushC m 0 0 0 + pushC m 31 0 (pushC m 15 0 a0))) 21 0 a0))))) (hp (brF (pushC m) 0 a0 (pushC m 0 0 0 + pushC m 31 0 (pushC m 15 0 a0))))
  have n8 := hP.2.2.1
  have n4 := hP.2.2.2.1
  have n12 := hP.2.2.2.2.2.1
  have nc8 := hP.2.2.2.2.2.2.1
  have tb := hB.1
  have nt16 := hB.2.2.2.1.1
  have nl16 := hB.2.2.2.2.1.1
  have lb := hB.2.2.2.2.1.2 a0 h0.1 h0.2
  have lb5 := lb.2.2.2.2.2.1
  refine x_iload_n (pc := 0) dX7_recall_0 1 rfl ?_
  refine x_aload_n (pc := 1) dX7_recall_1 0 rfl ?_
  refine y_getR (pc := 2) dX7_recall_2 flX7_15 rfl rfl rfl (by decide) ?_
  refine y_getR (pc := 5) (b := 0) dX7_recall_5 flX7_93 rfl rfl rfl (by decide) ?_
  refine y_getR (pc := 8) dX7_recall_8 flX7_111 rfl rfl rfl (by decide) ?_
  refine y_getI (pc := 11) 0 dX7_recall_11 flX7_115 rfl rfl rfl (by decide) ?_
  refine x_callS (pc := 14) _ dX7_recall_14 (ct_ckI ha0 (by unfold inI; omega) h0) lkX7_123 rfl (by decide) (Nat.le_of_ble_eq_true rfl) rfl ?_
  refine x_aload_n (pc := 17) dX7_recall_17 0 rfl ?_
  refine y_getR (pc := 18) dX7_recall_18 flX7_15 rfl rfl rfl (by decide) ?_
  refine y_getR (pc := 21) (b := 0) dX7_recall_21 flX7_93 rfl rfl rfl (by decide) ?_
  refine y_getR (pc := 24) dX7_recall_24 flX7_111 rfl rfl rfl (by decide) ?_
  refine x_iload_n (pc := 27) dX7_recall_27 1 rfl ?_
  refine x_callV (pc := 28) _ dX7_recall_28 (ct_isOpen (s := 0) (by decide) a0 (by omega) (by unfold inI; omega)) lkX7_267 rfl rfl rfl rfl (mem_dom0 (by decide) (by decide)) (by decide) (Nat.le_of_ble_eq_true rfl) rfl ?_
  refine x_ifb_ne (pc := 31) 37 dX7_recall_31 (by decide) (fun c_31 => ?_) (fun c_31 => absurd c_31 (fun z => z hz))
  refine x_aload_n (pc := 37) dX7_recall_37 0 rfl ?_
  refine y_getR (pc := 38) dX7_recall_38 flX7_38 rfl rfl rfl (by decide) ?_
  refine x_aload_n (pc := 41) dX7_recall_41 0 rfl ?_
  refine y_getR (pc := 42) dX7_recall_42 flX7_15 rfl rfl rfl (by decide) ?_
  refine y_getR (pc := 45) (b := 0) dX7_recall_45 flX7_93 rfl rfl rfl (by decide) ?_
  refine x_callV (pc := 48) _ dX7_recall_48 (ct_push hh0 hh1) lkX7_259 rfl rfl rfl rfl (mem_dom0 (by decide) (by decide)) (by decide) (Nat.le_of_ble_eq_true rfl) rfl ?_
  have hf2 := push_f hP hB
  have hP2 := hf2.1
  have hB2 := hf2.2
  have k0 : pushC m 0 0 = m 0 0 := push_k (by decide)
  have k1 : pushC m 1 0 = m 1 0 := push_k (by decide)
  have k2 : pushC m 2 0 = m 2 0 := push_k (by decide)
  have k3 : pushC m 3 0 = m 3 0 := push_k (by decide)
  have k22 : pushC m 22 0 = m 22 0 := push_k (by decide)
  have j2 : pushC m 2 0 0 = m 2 0 0 := by rw [k2]
  have j1 : pushC m 1 0 0 = m 1 0 0 := by rw [k1]
  have j22 : pushC m 22 0 2 = m 22 0 2 := by rw [k22]
  have j226 : pushC m 22 0 6 = m 22 0 6 := by rw [k22]
  have j0 : pushC m 0 0 0 = m 0 0 0 := by rw [k0]
  have mb := hB2.2.2.2.2.1.2 a0 h0.1 (by omega)
  have mb0 := mb.1
  have mb7 := mb.2.2.2.2.2.2
  have kk := hP2.2.2.2.2.2.2.2.2.2.2.2 _ mb0.1 mb0.2
  have kn := kk.2.2.2.1
  have lf2 := BS_lf hP2 hB2 h0.1 (show a0 < pushC m 2 0 0 by omega)
  refine x_aload_n (pc := 51) dX7_recall_51 0 rfl ?_
  refine y_getR (pc := 52) dX7_recall_52 flX7_15 rfl rfl rfl (by decide) ?_
  refine y_getR (pc := 55) (b := 0) dX7_recall_55 flX7_93 rfl rfl rfl (by decide) ?_
  refine y_getR (pc := 58) dX7_recall_58 flX7_111 rfl rfl rfl (by decide) ?_
  refine y_getR (pc := 61) dX7_recall_61 flX7_213 rfl rfl rfl (by decide) ?_
  refine x_iload_n (pc := 64) dX7_recall_64 1 rfl ?_
  refine y_iald (pc := 65) dX7_recall_65 rfl (by decide) (by omega) ?_
  refine x_istore_n (pc := 66) (lv' := [(2, _), (0, _), (1, _)]) dX7_recall_66 rfl (by decide) rfl ?_
  refine x_aload_n (pc := 67) dX7_recall_67 1 rfl ?_
  refine y_getR (pc := 68) dX7_recall_68 flX7_15 rfl rfl rfl (by decide) ?_
  refine y_getR (pc := 71) (b := 0) dX7_recall_71 flX7_93 rfl rfl rfl (by decide) ?_
  refine y_getR (pc := 74) dX7_recall_74 flX7_111 rfl rfl rfl (by decide) ?_
  refine x_iload_n (pc := 77) dX7_recall_77 2 rfl ?_
  refine x_aload_n (pc := 78) dX7_recall_78 1 rfl ?_
  refine y_getR (pc := 79) dX7_recall_79 flX7_15 rfl rfl rfl (by decide) ?_
  refine y_getR (pc := 82) (b := 0) dX7_recall_82 flX7_93 rfl rfl rfl (by decide) ?_
  refine y_getI (pc := 85) 0 dX7_recall_85 flX7_233 rfl rfl rfl (by decide) ?_
  refine x_aload_n (pc := 88) dX7_recall_88 1 rfl ?_
  refine y_getR (pc := 89) dX7_recall_89 flX7_15 rfl rfl rfl (by decide) ?_
  refine y_getR (pc := 92) (b := 0) dX7_recall_92 flX7_21 rfl rfl rfl (by decide) ?_
  refine y_getR (pc := 95) dX7_recall_95 flX7_192 rfl rfl rfl (by decide) ?_
  refine x_iload_n (pc := 98) dX7_recall_98 0 rfl ?_
  refine y_iald (pc := 99) dX7_recall_99 rfl (by decide) (by omega) ?_
  refine x_iadd (pc := 100) dX7_recall_100 ?_
  refine x_callV (pc := 101) _ dX7_recall_101 (ct_bringForward (s := 0) (by decide) a0 (pushC m 0 0 0 + pushC m 31 0 (pushC m 15 0 a0)) (by omega) (by unfold inI; omega) (by unfold inI; omega)) lkX7_271 rfl rfl rfl rfl (mem_dom0 (by decide) (by decide)) (by decide) (Nat.le_of_ble_eq_true rfl) rfl ?_
  refine x_aload_n (pc := 104) dX7_recall_104 1 rfl ?_
  refine y_getR (pc := 105) dX7_recall_105 flX7_15 rfl rfl rfl (by decide) ?_
  refine y_getR (pc := 108) (b := 0) dX7_recall_108 flX7_93 rfl rfl rfl (by decide) ?_
  refine y_getR (pc := 111) dX7_recall_111 flX7_111 rfl rfl rfl (by decide) ?_
  refine y_getR (pc := 114) dX7_recall_114 flX7_230 rfl rfl rfl (by decide) ?_
  refine x_iload_n (pc := 117) dX7_recall_117 2 rfl ?_
  refine y_iald (pc := 118) dX7_recall_118 rfl (by decide) (by omega) ?_
  exact y_iret (pc := 119) dX7_recall_119 rfl rfl rfl
theorem P_giveBack0 {G : GG} {m : Mem} (hP : BP m 0) (hB : BS m 0 0) (hT : m 0 0 0 ≤ 9999) (hh0 : 0 ≤ m 36 0 0 ∧ m 36 0 0 ≤ 8) (hh1 : 0 ≤ m 36 0 1 ∧ m 36 0 1 < 8) {a0 : Int} (ha0 : inI a0) (h0 : 0 ≤ a0 ∧ a0 < m 2 0 0) (hz : ¬ m 20 0 a0 ≤ 2) : Ct G MX7_giveBack (rmD 9) [rf G 38 0, .int (iI a0)] (hp (m)) (.inl (some (.int (iI (-3))))) (hp (m)) := by
  refine x_entry (by decide +kernel) mwX7_giveBack rfl (Nat.le_of_ble_eq_true rfl) ?_
  show X G MX7_giveBack (rmD 9) 0 [(0, rf G 38 0), (1, .int (iI a0))] [] (hp (m)) 0 0 (.inl (some (.int (iI (-3))))) (hp (m))
  have n8 := hP.2.2.1
  have n4 := hP.2.2.2.1
  have n12 := hP.2.2.2.2.2.1
  have nc8 := hP.2.2.2.2.2.2.1
  have tb := hB.1
  have nt16 := hB.2.2.2.1.1
  have nl16 := hB.2.2.2.2.1.1
  have lb := hB.2.2.2.2.1.2 a0 h0.1 h0.2
  have lb5 := lb.2.2.2.2.2.1
  refine x_iload_n (pc := 0) dX7_giveBack_0 1 rfl ?_
  refine x_aload_n (pc := 1) dX7_giveBack_1 0 rfl ?_
  refine y_getR (pc := 2) dX7_giveBack_2 flX7_15 rfl rfl rfl (by decide) ?_
  refine y_getR (pc := 5) (b := 0) dX7_giveBack_5 flX7_93 rfl rfl rfl (by decide) ?_
  refine y_getR (pc := 8) dX7_giveBack_8 flX7_111 rfl rfl rfl (by decide) ?_
  refine y_getI (pc := 11) 0 dX7_giveBack_11 flX7_115 rfl rfl rfl (by decide) ?_
  refine x_callS (pc := 14) _ dX7_giveBack_14 (ct_ckI ha0 (by unfold inI; omega) h0) lkX7_123 rfl (by decide) (Nat.le_of_ble_eq_true rfl) rfl ?_
  refine x_aload_n (pc := 17) dX7_giveBack_17 0 rfl ?_
  refine y_getR (pc := 18) dX7_giveBack_18 flX7_15 rfl rfl rfl (by decide) ?_
  refine y_getR (pc := 21) (b := 0) dX7_giveBack_21 flX7_93 rfl rfl rfl (by decide) ?_
  refine y_getR (pc := 24) dX7_giveBack_24 flX7_111 rfl rfl rfl (by decide) ?_
  refine x_iload_n (pc := 27) dX7_giveBack_27 1 rfl ?_
  refine x_callV (pc := 28) _ dX7_giveBack_28 (ct_isOpen (s := 0) (by decide) a0 (by omega) (by unfold inI; omega)) lkX7_267 rfl rfl rfl rfl (mem_dom0 (by decide) (by decide)) (by decide) (Nat.le_of_ble_eq_true rfl) rfl ?_
  refine x_ifb_ne (pc := 31) 37 dX7_giveBack_31 (by decide) (fun c_31 => absurd c_31 hz) (fun c_31 => ?_)
  refine x_bipush (pc := 34) (z := (-3)) dX7_giveBack_34 (by decide) ?_
  exact y_iret (pc := 36) dX7_giveBack_36 rfl rfl rfl
theorem Px_giveBack_0 {G : GG} {m : Mem} (hP : BP m 0) (hB : BS m 0 0) (hT : m 0 0 0 ≤ 9999) (hh0 : 0 ≤ m 36 0 0 ∧ m 36 0 0 ≤ 8) (hh1 : 0 ≤ m 36 0 1 ∧ m 36 0 1 < 8) {a0 : Int} (ha0 : inI a0)  (h0 : ¬ (0 ≤ a0 ∧ a0 < m 2 0 0)) : Ct G MX7_giveBack (rmE 1) [rf G 38 0, .int (iI a0)] (hp (m)) (.inr ioE) (hp (m)) := by
  refine x_entry (by decide +kernel) mwX7_giveBack rfl (Nat.le_of_ble_eq_true rfl) ?_
  show X G MX7_giveBack (rmE 1) 0 [(0, rf G 38 0), (1, .int (iI a0))] [] (hp (m)) 0 0 (.inr ioE) (hp (m))
  have n8 := hP.2.2.1
  have n4 := hP.2.2.2.1
  have n12 := hP.2.2.2.2.2.1
  have nc8 := hP.2.2.2.2.2.2.1
  have tb := hB.1
  have nt16 := hB.2.2.2.1.1
  have nl16 := hB.2.2.2.2.1.1
  refine x_iload_n (pc := 0) dX7_giveBack_0 1 rfl ?_
  refine x_aload_n (pc := 1) dX7_giveBack_1 0 rfl ?_
  refine y_getR (pc := 2) dX7_giveBack_2 flX7_15 rfl rfl rfl (by decide) ?_
  refine y_getR (pc := 5) (b := 0) dX7_giveBack_5 flX7_93 rfl rfl rfl (by decide) ?_
  refine y_getR (pc := 8) dX7_giveBack_8 flX7_111 rfl rfl rfl (by decide) ?_
  refine y_getI (pc := 11) 0 dX7_giveBack_11 flX7_115 rfl rfl rfl (by decide) ?_
  exact x_callSX (pc := 14) _ dX7_giveBack_14 (ct_ckIx ha0 (by unfold inI; omega) h0) lkX7_123 rfl rfl (by decide) (Nat.le_of_ble_eq_true rfl) rfl
theorem P_giveBack1 {G : GG} {m : Mem} (hP : BP m 0) (hB : BS m 0 0) (hT : m 0 0 0 ≤ 9999) (hh0 : 0 ≤ m 36 0 0 ∧ m 36 0 0 ≤ 8) (hh1 : 0 ≤ m 36 0 1 ∧ m 36 0 1 < 8) {a0 : Int} (ha0 : inI a0) (h0 : 0 ≤ a0 ∧ a0 < m 2 0 0) (hz : m 20 0 a0 ≤ 2) : Ct G MX7_giveBack (rmD 9) [rf G 38 0, .int (iI a0)] (hp (m)) (.inl (some (.int (iI (owedC (brF (pushC m) 0 a0 (pushC m 0 0 0)) 0 0 a0))))) (hp (brF (pushC m) 0 a0 (pushC m 0 0 0))) := by
  refine x_entry (by decide +kernel) mwX7_giveBack rfl (Nat.le_of_ble_eq_true rfl) ?_
  show X G MX7_giveBack (rmD 9) 0 [(0, rf G 38 0), (1, .int (iI a0))] [] (hp (m)) 0 0 (.inl (some (.int (iI (owedC (brF (pushC m) 0 a0 (pushC m 0 0 0)) 0 0 a0))))) (hp (brF (pushC m) 0 a0 (pushC m 0 0 0)))
  have n8 := hP.2.2.1
  have n4 := hP.2.2.2.1
  have n12 := hP.2.2.2.2.2.1
  have nc8 := hP.2.2.2.2.2.2.1
  have tb := hB.1
  have nt16 := hB.2.2.2.1.1
  have nl16 := hB.2.2.2.2.1.1
  have lb := hB.2.2.2.2.1.2 a0 h0.1 h0.2
  have lb5 := lb.2.2.2.2.2.1
  refine x_iload_n (pc := 0) dX7_giveBack_0 1 rfl ?_
  refine x_aload_n (pc := 1) dX7_giveBack_1 0 rfl ?_
  refine y_getR (pc := 2) dX7_giveBack_2 flX7_15 rfl rfl rfl (by decide) ?_
  refine y_getR (pc := 5) (b := 0) dX7_giveBack_5 flX7_93 rfl rfl rfl (by decide) ?_
  refine y_getR (pc := 8) dX7_giveBack_8 flX7_111 rfl rfl rfl (by decide) ?_
  refine y_getI (pc := 11) 0 dX7_giveBack_11 flX7_115 rfl rfl rfl (by decide) ?_
  refine x_callS (pc := 14) _ dX7_giveBack_14 (ct_ckI ha0 (by unfold inI; omega) h0) lkX7_123 rfl (by decide) (Nat.le_of_ble_eq_true rfl) rfl ?_
  refine x_aload_n (pc := 17) dX7_giveBack_17 0 rfl ?_
  refine y_getR (pc := 18) dX7_giveBack_18 flX7_15 rfl rfl rfl (by decide) ?_
  refine y_getR (pc := 21) (b := 0) dX7_giveBack_21 flX7_93 rfl rfl rfl (by decide) ?_
  refine y_getR (pc := 24) dX7_giveBack_24 flX7_111 rfl rfl rfl (by decide) ?_
  refine x_iload_n (pc := 27) dX7_giveBack_27 1 rfl ?_
  refine x_callV (pc := 28) _ dX7_giveBack_28 (ct_isOpen (s := 0) (by decide) a0 (by omega) (by unfold inI; omega)) lkX7_267 rfl rfl rfl rfl (mem_dom0 (by decide) (by decide)) (by decide) (Nat.le_of_ble_eq_true rfl) rfl ?_
  refine x_ifb_ne (pc := 31) 37 dX7_giveBack_31 (by decide) (fun c_31 => ?_) (fun c_31 => absurd c_31 (fun z => z hz))
  refine x_aload_n (pc := 37) dX7_giveBack_37 0 rfl ?_
  refine y_getR (pc := 38) dX7_giveBack_38 flX7_38 rfl rfl rfl (by decide) ?_
  refine x_aload_n (pc := 41) dX7_giveBack_41 0 rfl ?_
  refine y_getR (pc := 42) dX7_giveBack_42 flX7_15 rfl rfl rfl (by decide) ?_
  refine y_getR (pc := 45) (b := 0) dX7_giveBack_45 flX7_93 rfl rfl rfl (by decide) ?_
  refine x_callV (pc := 48) _ dX7_giveBack_48 (ct_push hh0 hh1) lkX7_259 rfl rfl rfl rfl (mem_dom0 (by decide) (by decide)) (by decide) (Nat.le_of_ble_eq_true rfl) rfl ?_
  have hf2 := push_f hP hB
  have hP2 := hf2.1
  have hB2 := hf2.2
  have k0 : pushC m 0 0 = m 0 0 := push_k (by decide)
  have k1 : pushC m 1 0 = m 1 0 := push_k (by decide)
  have k2 : pushC m 2 0 = m 2 0 := push_k (by decide)
  have k3 : pushC m 3 0 = m 3 0 := push_k (by decide)
  have k22 : pushC m 22 0 = m 22 0 := push_k (by decide)
  have j2 : pushC m 2 0 0 = m 2 0 0 := by rw [k2]
  have j1 : pushC m 1 0 0 = m 1 0 0 := by rw [k1]
  have j22 : pushC m 22 0 2 = m 22 0 2 := by rw [k22]
  have j226 : pushC m 22 0 6 = m 22 0 6 := by rw [k22]
  have j0 : pushC m 0 0 0 = m 0 0 0 := by rw [k0]
  have mb := hB2.2.2.2.2.1.2 a0 h0.1 (by omega)
  have mb0 := mb.1
  have mb7 := mb.2.2.2.2.2.2
  have kk := hP2.2.2.2.2.2.2.2.2.2.2.2 _ mb0.1 mb0.2
  have kn := kk.2.2.2.1
  have lf2 := BS_lf hP2 hB2 h0.1 (show a0 < pushC m 2 0 0 by omega)
  refine x_aload_n (pc := 51) dX7_giveBack_51 0 rfl ?_
  refine y_getR (pc := 52) dX7_giveBack_52 flX7_15 rfl rfl rfl (by decide) ?_
  refine y_getR (pc := 55) (b := 0) dX7_giveBack_55 flX7_93 rfl rfl rfl (by decide) ?_
  refine y_getR (pc := 58) dX7_giveBack_58 flX7_111 rfl rfl rfl (by decide) ?_
  refine x_iload_n (pc := 61) dX7_giveBack_61 1 rfl ?_
  refine x_aload_n (pc := 62) dX7_giveBack_62 0 rfl ?_
  refine y_getR (pc := 63) dX7_giveBack_63 flX7_15 rfl rfl rfl (by decide) ?_
  refine y_getR (pc := 66) (b := 0) dX7_giveBack_66 flX7_93 rfl rfl rfl (by decide) ?_
  refine y_getI (pc := 69) 0 dX7_giveBack_69 flX7_233 rfl rfl rfl (by decide) ?_
  refine x_callV (pc := 72) _ dX7_giveBack_72 (ct_bringForward (s := 0) (by decide) a0 _ (by omega) (by unfold inI; omega) (by unfold inI; omega)) lkX7_271 rfl rfl rfl rfl (mem_dom0 (by decide) (by decide)) (by decide) (Nat.le_of_ble_eq_true rfl) rfl ?_
  refine x_aload_n (pc := 75) dX7_giveBack_75 0 rfl ?_
  refine y_getR (pc := 76) dX7_giveBack_76 flX7_15 rfl rfl rfl (by decide) ?_
  refine x_iload_n (pc := 79) dX7_giveBack_79 1 rfl ?_
  refine x_callV (pc := 80) _ dX7_giveBack_80 (ct_owed (w := 0) (by decide) a0 (by omega) (LF_brF lf2)) lkX7_226 rfl rfl rfl rfl (mem_dom0 (by decide) (by decide)) (by decide) (Nat.le_of_ble_eq_true rfl) rfl ?_
  exact y_iret (pc := 83) dX7_giveBack_83 rfl rfl rfl
theorem P_forgive0 {G : GG} {m : Mem} (hP : BP m 0) (hB : BS m 0 0) (hT : m 0 0 0 ≤ 9999) (hh0 : 0 ≤ m 36 0 0 ∧ m 36 0 0 ≤ 8) (hh1 : 0 ≤ m 36 0 1 ∧ m 36 0 1 < 8) {a0 : Int} (ha0 : inI a0) (h0 : 0 ≤ a0 ∧ a0 < m 2 0 0) (hz : ¬ m 20 0 a0 ≤ 2) : Ct G MX7_forgive (rmD 9) [rf G 38 0, .int (iI a0)] (hp (m)) (.inl (some (.int (iI (-3))))) (hp (m)) := by
  refine x_entry (by decide +kernel) mwX7_forgive rfl (Nat.le_of_ble_eq_true rfl) ?_
  show X G MX7_forgive (rmD 9) 0 [(0, rf G 38 0), (1, .int (iI a0))] [] (hp (m)) 0 0 (.inl (some (.int (iI (-3))))) (hp (m))
  have n8 := hP.2.2.1
  have n4 := hP.2.2.2.1
  have n12 := hP.2.2.2.2.2.1
  have nc8 := hP.2.2.2.2.2.2.1
  have tb := hB.1
  have nt16 := hB.2.2.2.1.1
  have nl16 := hB.2.2.2.2.1.1
  have lb := hB.2.2.2.2.1.2 a0 h0.1 h0.2
  have lb5 := lb.2.2.2.2.2.1
  refine x_iload_n (pc := 0) dX7_forgive_0 1 rfl ?_
  refine x_aload_n (pc := 1) dX7_forgive_1 0 rfl ?_
  refine y_getR (pc := 2) dX7_forgive_2 flX7_15 rfl rfl rfl (by decide) ?_
  refine y_getR (pc := 5) (b := 0) dX7_forgive_5 flX7_93 rfl rfl rfl (by decide) ?_
  refine y_getR (pc := 8) dX7_forgive_8 flX7_111 rfl rfl rfl (by decide) ?_
  refine y_getI (pc := 11) 0 dX7_forgive_11 flX7_115 rfl rfl rfl (by decide) ?_
  refine x_callS (pc := 14) _ dX7_forgive_14 (ct_ckI ha0 (by unfold inI; omega) h0) lkX7_123 rfl (by decide) (Nat.le_of_ble_eq_true rfl) rfl ?_
  refine x_aload_n (pc := 17) dX7_forgive_17 0 rfl ?_
  refine y_getR (pc := 18) dX7_forgive_18 flX7_15 rfl rfl rfl (by decide) ?_
  refine y_getR (pc := 21) (b := 0) dX7_forgive_21 flX7_93 rfl rfl rfl (by decide) ?_
  refine y_getR (pc := 24) dX7_forgive_24 flX7_111 rfl rfl rfl (by decide) ?_
  refine x_iload_n (pc := 27) dX7_forgive_27 1 rfl ?_
  refine x_callV (pc := 28) _ dX7_forgive_28 (ct_isOpen (s := 0) (by decide) a0 (by omega) (by unfold inI; omega)) lkX7_267 rfl rfl rfl rfl (mem_dom0 (by decide) (by decide)) (by decide) (Nat.le_of_ble_eq_true rfl) rfl ?_
  refine x_ifb_ne (pc := 31) 37 dX7_forgive_31 (by decide) (fun c_31 => absurd c_31 hz) (fun c_31 => ?_)
  refine x_bipush (pc := 34) (z := (-3)) dX7_forgive_34 (by decide) ?_
  exact y_iret (pc := 36) dX7_forgive_36 rfl rfl rfl
theorem Px_forgive_0 {G : GG} {m : Mem} (hP : BP m 0) (hB : BS m 0 0) (hT : m 0 0 0 ≤ 9999) (hh0 : 0 ≤ m 36 0 0 ∧ m 36 0 0 ≤ 8) (hh1 : 0 ≤ m 36 0 1 ∧ m 36 0 1 < 8) {a0 : Int} (ha0 : inI a0)  (h0 : ¬ (0 ≤ a0 ∧ a0 < m 2 0 0)) : Ct G MX7_forgive (rmE 1) [rf G 38 0, .int (iI a0)] (hp (m)) (.inr ioE) (hp (m)) := by
  refine x_entry (by decide +kernel) mwX7_forgive rfl (Nat.le_of_ble_eq_true rfl) ?_
  show X G MX7_forgive (rmE 1) 0 [(0, rf G 38 0), (1, .int (iI a0))] [] (hp (m)) 0 0 (.inr ioE) (hp (m))
  have n8 := hP.2.2.1
  have n4 := hP.2.2.2.1
  have n12 := hP.2.2.2.2.2.1
  have nc8 := hP.2.2.2.2.2.2.1
  have tb := hB.1
  have nt16 := hB.2.2.2.1.1
  have nl16 := hB.2.2.2.2.1.1
  refine x_iload_n (pc := 0) dX7_forgive_0 1 rfl ?_
  refine x_aload_n (pc := 1) dX7_forgive_1 0 rfl ?_
  refine y_getR (pc := 2) dX7_forgive_2 flX7_15 rfl rfl rfl (by decide) ?_
  refine y_getR (pc := 5) (b := 0) dX7_forgive_5 flX7_93 rfl rfl rfl (by decide) ?_
  refine y_getR (pc := 8) dX7_forgive_8 flX7_111 rfl rfl rfl (by decide) ?_
  refine y_getI (pc := 11) 0 dX7_forgive_11 flX7_115 rfl rfl rfl (by decide) ?_
  exact x_callSX (pc := 14) _ dX7_forgive_14 (ct_ckIx ha0 (by unfold inI; omega) h0) lkX7_123 rfl rfl (by decide) (Nat.le_of_ble_eq_true rfl) rfl
theorem P_forgive1 {G : GG} {m : Mem} (hP : BP m 0) (hB : BS m 0 0) (hT : m 0 0 0 ≤ 9999) (hh0 : 0 ≤ m 36 0 0 ∧ m 36 0 0 ≤ 8) (hh1 : 0 ≤ m 36 0 1 ∧ m 36 0 1 < 8) {a0 : Int} (ha0 : inI a0) (h0 : 0 ≤ a0 ∧ a0 < m 2 0 0) (hz : m 20 0 a0 ≤ 2) : Ct G MX7_forgive (rmD 9) [rf G 38 0, .int (iI a0)] (hp (m)) (.inl (some (.int (iI (owedC (pushC m) 0 0 a0))))) (hp (up3 (pushC m) 20 0 a0 5)) := by
  refine x_entry (by decide +kernel) mwX7_forgive rfl (Nat.le_of_ble_eq_true rfl) ?_
  show X G MX7_forgive (rmD 9) 0 [(0, rf G 38 0), (1, .int (iI a0))] [] (hp (m)) 0 0 (.inl (some (.int (iI (owedC (pushC m) 0 0 a0))))) (hp (up3 (pushC m) 20 0 a0 5))
  have n8 := hP.2.2.1
  have n4 := hP.2.2.2.1
  have n12 := hP.2.2.2.2.2.1
  have nc8 := hP.2.2.2.2.2.2.1
  have tb := hB.1
  have nt16 := hB.2.2.2.1.1
  have nl16 := hB.2.2.2.2.1.1
  have lb := hB.2.2.2.2.1.2 a0 h0.1 h0.2
  have lb5 := lb.2.2.2.2.2.1
  refine x_iload_n (pc := 0) dX7_forgive_0 1 rfl ?_
  refine x_aload_n (pc := 1) dX7_forgive_1 0 rfl ?_
  refine y_getR (pc := 2) dX7_forgive_2 flX7_15 rfl rfl rfl (by decide) ?_
  refine y_getR (pc := 5) (b := 0) dX7_forgive_5 flX7_93 rfl rfl rfl (by decide) ?_
  refine y_getR (pc := 8) dX7_forgive_8 flX7_111 rfl rfl rfl (by decide) ?_
  refine y_getI (pc := 11) 0 dX7_forgive_11 flX7_115 rfl rfl rfl (by decide) ?_
  refine x_callS (pc := 14) _ dX7_forgive_14 (ct_ckI ha0 (by unfold inI; omega) h0) lkX7_123 rfl (by decide) (Nat.le_of_ble_eq_true rfl) rfl ?_
  refine x_aload_n (pc := 17) dX7_forgive_17 0 rfl ?_
  refine y_getR (pc := 18) dX7_forgive_18 flX7_15 rfl rfl rfl (by decide) ?_
  refine y_getR (pc := 21) (b := 0) dX7_forgive_21 flX7_93 rfl rfl rfl (by decide) ?_
  refine y_getR (pc := 24) dX7_forgive_24 flX7_111 rfl rfl rfl (by decide) ?_
  refine x_iload_n (pc := 27) dX7_forgive_27 1 rfl ?_
  refine x_callV (pc := 28) _ dX7_forgive_28 (ct_isOpen (s := 0) (by decide) a0 (by omega) (by unfold inI; omega)) lkX7_267 rfl rfl rfl rfl (mem_dom0 (by decide) (by decide)) (by decide) (Nat.le_of_ble_eq_true rfl) rfl ?_
  refine x_ifb_ne (pc := 31) 37 dX7_forgive_31 (by decide) (fun c_31 => ?_) (fun c_31 => absurd c_31 (fun z => z hz))
  refine x_aload_n (pc := 37) dX7_forgive_37 0 rfl ?_
  refine y_getR (pc := 38) dX7_forgive_38 flX7_38 rfl rfl rfl (by decide) ?_
  refine x_aload_n (pc := 41) dX7_forgive_41 0 rfl ?_
  refine y_getR (pc := 42) dX7_forgive_42 flX7_15 rfl rfl rfl (by decide) ?_
  refine y_getR (pc := 45) (b := 0) dX7_forgive_45 flX7_93 rfl rfl rfl (by decide) ?_
  refine x_callV (pc := 48) _ dX7_forgive_48 (ct_push hh0 hh1) lkX7_259 rfl rfl rfl rfl (mem_dom0 (by decide) (by decide)) (by decide) (Nat.le_of_ble_eq_true rfl) rfl ?_
  have hf2 := push_f hP hB
  have hP2 := hf2.1
  have hB2 := hf2.2
  have k0 : pushC m 0 0 = m 0 0 := push_k (by decide)
  have k1 : pushC m 1 0 = m 1 0 := push_k (by decide)
  have k2 : pushC m 2 0 = m 2 0 := push_k (by decide)
  have k3 : pushC m 3 0 = m 3 0 := push_k (by decide)
  have k22 : pushC m 22 0 = m 22 0 := push_k (by decide)
  have j2 : pushC m 2 0 0 = m 2 0 0 := by rw [k2]
  have j1 : pushC m 1 0 0 = m 1 0 0 := by rw [k1]
  have j22 : pushC m 22 0 2 = m 22 0 2 := by rw [k22]
  have j226 : pushC m 22 0 6 = m 22 0 6 := by rw [k22]
  have j0 : pushC m 0 0 0 = m 0 0 0 := by rw [k0]
  have mb := hB2.2.2.2.2.1.2 a0 h0.1 (by omega)
  have mb0 := mb.1
  have mb7 := mb.2.2.2.2.2.2
  have kk := hP2.2.2.2.2.2.2.2.2.2.2.2 _ mb0.1 mb0.2
  have kn := kk.2.2.2.1
  have lf2 := BS_lf hP2 hB2 h0.1 (show a0 < pushC m 2 0 0 by omega)
  refine x_aload_n (pc := 51) dX7_forgive_51 0 rfl ?_
  refine y_getR (pc := 52) dX7_forgive_52 flX7_15 rfl rfl rfl (by decide) ?_
  refine x_iload_n (pc := 55) dX7_forgive_55 1 rfl ?_
  refine x_callV (pc := 56) _ dX7_forgive_56 (ct_owed (w := 0) (by decide) a0 (by omega) lf2) lkX7_226 rfl rfl rfl rfl (mem_dom0 (by decide) (by decide)) (by decide) (Nat.le_of_ble_eq_true rfl) rfl ?_
  refine x_istore_n (pc := 59) (lv' := [(2, _), (0, _), (1, _)]) dX7_forgive_59 rfl (by decide) rfl ?_
  refine x_aload_n (pc := 60) dX7_forgive_60 1 rfl ?_
  refine y_getR (pc := 61) dX7_forgive_61 flX7_15 rfl rfl rfl (by decide) ?_
  refine y_getR (pc := 64) (b := 0) dX7_forgive_64 flX7_93 rfl rfl rfl (by decide) ?_
  refine y_getR (pc := 67) dX7_forgive_67 flX7_111 rfl rfl rfl (by decide) ?_
  refine y_getR (pc := 70) dX7_forgive_70 flX7_229 rfl rfl rfl (by decide) ?_
  refine x_iload_n (pc := 73) dX7_forgive_73 2 rfl ?_
  refine x_iconst (pc := 74) dX7_forgive_74 ?_
  refine y_iast (pc := 75) dX7_forgive_75 rfl (by decide) (by omega) ?_
  refine x_iload_n (pc := 76) dX7_forgive_76 0 rfl ?_
  exact y_iret (pc := 77) dX7_forgive_77 rfl rfl rfl
theorem P_mend {G : GG} {m : Mem} (hP : BP m 0) (hB : BS m 0 0) (hT : m 0 0 0 ≤ 9999) (hh0 : 0 ≤ m 36 0 0 ∧ m 36 0 0 ≤ 8) (hh1 : 0 ≤ m 36 0 1 ∧ m 36 0 1 < 8) {a0 : Int} (ha0 : inI a0) (h0 : 0 ≤ a0 ∧ a0 < m 22 0 6)  : Ct G MX7_mend (rmD 9) [rf G 38 0, .int (iI a0)] (hp (m)) (.inl (some (.int (iI (pushC m 10 0 a0))))) (hp (up3 (pushC m) 10 0 a0 0)) := by
  refine x_entry (by decide +kernel) mwX7_mend rfl (Nat.le_of_ble_eq_true rfl) ?_
  show X G MX7_mend (rmD 9) 0 [(0, rf G 38 0), (1, .int (iI a0))] [] (hp (m)) 0 0 (.inl (some (.int (iI (pushC m 10 0 a0))))) (hp (up3 (pushC m) 10 0 a0 0))
  have n8 := hP.2.2.1
  have n4 := hP.2.2.2.1
  have n12 := hP.2.2.2.2.2.1
  have nc8 := hP.2.2.2.2.2.2.1
  have tb := hB.1
  have nt16 := hB.2.2.2.1.1
  have nl16 := hB.2.2.2.2.1.1
  refine x_iload_n (pc := 0) dX7_mend_0 1 rfl ?_
  refine x_aload_n (pc := 1) dX7_mend_1 0 rfl ?_
  refine y_getR (pc := 2) dX7_mend_2 flX7_15 rfl rfl rfl (by decide) ?_
  refine y_getR (pc := 5) (b := 0) dX7_mend_5 flX7_21 rfl rfl rfl (by decide) ?_
  refine y_getI (pc := 8) 6 dX7_mend_8 flX7_108 rfl rfl rfl (by decide) ?_
  refine x_callS (pc := 11) _ dX7_mend_11 (ct_ckI ha0 (by unfold inI; omega) h0) lkX7_123 rfl (by decide) (Nat.le_of_ble_eq_true rfl) rfl ?_
  refine x_aload_n (pc := 14) dX7_mend_14 0 rfl ?_
  refine y_getR (pc := 15) dX7_mend_15 flX7_38 rfl rfl rfl (by decide) ?_
  refine x_aload_n (pc := 18) dX7_mend_18 0 rfl ?_
  refine y_getR (pc := 19) dX7_mend_19 flX7_15 rfl rfl rfl (by decide) ?_
  refine y_getR (pc := 22) (b := 0) dX7_mend_22 flX7_93 rfl rfl rfl (by decide) ?_
  refine x_callV (pc := 25) _ dX7_mend_25 (ct_push hh0 hh1) lkX7_259 rfl rfl rfl rfl (mem_dom0 (by decide) (by decide)) (by decide) (Nat.le_of_ble_eq_true rfl) rfl ?_
  have hf2 := push_f hP hB
  have hP2 := hf2.1
  have hB2 := hf2.2
  have k0 : pushC m 0 0 = m 0 0 := push_k (by decide)
  have k1 : pushC m 1 0 = m 1 0 := push_k (by decide)
  have k2 : pushC m 2 0 = m 2 0 := push_k (by decide)
  have k3 : pushC m 3 0 = m 3 0 := push_k (by decide)
  have k22 : pushC m 22 0 = m 22 0 := push_k (by decide)
  have j2 : pushC m 2 0 0 = m 2 0 0 := by rw [k2]
  have j1 : pushC m 1 0 0 = m 1 0 0 := by rw [k1]
  have j22 : pushC m 22 0 2 = m 22 0 2 := by rw [k22]
  have j226 : pushC m 22 0 6 = m 22 0 6 := by rw [k22]
  have j0 : pushC m 0 0 0 = m 0 0 0 := by rw [k0]
  refine x_aload_n (pc := 28) dX7_mend_28 0 rfl ?_
  refine y_getR (pc := 29) dX7_mend_29 flX7_15 rfl rfl rfl (by decide) ?_
  refine y_getR (pc := 32) (b := 0) dX7_mend_32 flX7_93 rfl rfl rfl (by decide) ?_
  refine y_getR (pc := 35) dX7_mend_35 flX7_204 rfl rfl rfl (by decide) ?_
  refine x_iload_n (pc := 38) dX7_mend_38 1 rfl ?_
  refine y_iald (pc := 39) dX7_mend_39 rfl (by decide) (by omega) ?_
  refine x_istore_n (pc := 40) (lv' := [(2, _), (0, _), (1, _)]) dX7_mend_40 rfl (by decide) rfl ?_
  refine x_aload_n (pc := 41) dX7_mend_41 1 rfl ?_
  refine y_getR (pc := 42) dX7_mend_42 flX7_15 rfl rfl rfl (by decide) ?_
  refine y_getR (pc := 45) (b := 0) dX7_mend_45 flX7_93 rfl rfl rfl (by decide) ?_
  refine y_getR (pc := 48) dX7_mend_48 flX7_204 rfl rfl rfl (by decide) ?_
  refine x_iload_n (pc := 51) dX7_mend_51 2 rfl ?_
  refine x_iconst (pc := 52) dX7_mend_52 ?_
  refine y_iast (pc := 53) dX7_mend_53 rfl (by decide) (by omega) ?_
  refine x_iload_n (pc := 54) dX7_mend_54 0 rfl ?_
  exact y_iret (pc := 55) dX7_mend_55 rfl rfl rfl
theorem Px_mend_0 {G : GG} {m : Mem} (hP : BP m 0) (hB : BS m 0 0) (hT : m 0 0 0 ≤ 9999) (hh0 : 0 ≤ m 36 0 0 ∧ m 36 0 0 ≤ 8) (hh1 : 0 ≤ m 36 0 1 ∧ m 36 0 1 < 8) {a0 : Int} (ha0 : inI a0)  (h0 : ¬ (0 ≤ a0 ∧ a0 < m 22 0 6)) : Ct G MX7_mend (rmE 1) [rf G 38 0, .int (iI a0)] (hp (m)) (.inr ioE) (hp (m)) := by
  refine x_entry (by decide +kernel) mwX7_mend rfl (Nat.le_of_ble_eq_true rfl) ?_
  show X G MX7_mend (rmE 1) 0 [(0, rf G 38 0), (1, .int (iI a0))] [] (hp (m)) 0 0 (.inr ioE) (hp (m))
  have n8 := hP.2.2.1
  have n4 := hP.2.2.2.1
  have n12 := hP.2.2.2.2.2.1
  have nc8 := hP.2.2.2.2.2.2.1
  have tb := hB.1
  have nt16 := hB.2.2.2.1.1
  have nl16 := hB.2.2.2.2.1.1
  refine x_iload_n (pc := 0) dX7_mend_0 1 rfl ?_
  refine x_aload_n (pc := 1) dX7_mend_1 0 rfl ?_
  refine y_getR (pc := 2) dX7_mend_2 flX7_15 rfl rfl rfl (by decide) ?_
  refine y_getR (pc := 5) (b := 0) dX7_mend_5 flX7_21 rfl rfl rfl (by decide) ?_
  refine y_getI (pc := 8) 6 dX7_mend_8 flX7_108 rfl rfl rfl (by decide) ?_
  exact x_callSX (pc := 11) _ dX7_mend_11 (ct_ckIx ha0 (by unfold inI; omega) h0) lkX7_123 rfl rfl (by decide) (Nat.le_of_ble_eq_true rfl) rfl
theorem P_charge {G : GG} {m : Mem} (hP : BP m 0) (hB : BS m 0 0) (hT : m 0 0 0 ≤ 9999) (hh0 : 0 ≤ m 36 0 0 ∧ m 36 0 0 ≤ 8) (hh1 : 0 ≤ m 36 0 1 ∧ m 36 0 1 < 8) {a0 a1 : Int} (ha0 : inI a0) (ha1 : inI a1) (h0 : 0 ≤ a0 ∧ a0 < m 22 0 2) (h1 : 1 ≤ a1 ∧ a1 ≤ 100000)  : Ct G MX7_charge (rmD 9) [rf G 38 0, .int (iI a0), .int (iI a1)] (hp (m)) (.inl (some (.int (iI (getC (up3 (pushC m) 0 0 1 (pushC m 0 0 1 + a1)) 0 0 a0 a1 3 0 a0))))) (hp (getC (up3 (pushC m) 0 0 1 (pushC m 0 0 1 + a1)) 0 0 a0 a1)) := by
  refine x_entry (by decide +kernel) mwX7_charge rfl (Nat.le_of_ble_eq_true rfl) ?_
  show X G MX7_charge (rmD 9) 0 [(0, rf G 38 0), (1, .int (iI a0)), (2, .int (iI a1))] [] (hp (m)) 0 0 (.inl (some (.int (iI (getC (up3 (pushC m) 0 0 1 (pushC m 0 0 1 + a1)) 0 0 a0 a1 3 0 a0))))) (hp (getC (up3 (pushC m) 0 0 1 (pushC m 0 0 1 + a1)) 0 0 a0 a1))
  have n8 := hP.2.2.1
  have n4 := hP.2.2.2.1
  have n12 := hP.2.2.2.2.2.1
  have nc8 := hP.2.2.2.2.2.2.1
  have tb := hB.1
  have nt16 := hB.2.2.2.1.1
  have nl16 := hB.2.2.2.2.1.1
  refine x_iload_n (pc := 0) dX7_charge_0 1 rfl ?_
  refine x_aload_n (pc := 1) dX7_charge_1 0 rfl ?_
  refine y_getR (pc := 2) dX7_charge_2 flX7_15 rfl rfl rfl (by decide) ?_
  refine y_getR (pc := 5) (b := 0) dX7_charge_5 flX7_21 rfl rfl rfl (by decide) ?_
  refine y_getI (pc := 8) 2 dX7_charge_8 flX7_74 rfl rfl rfl (by decide) ?_
  refine x_callS (pc := 11) _ dX7_charge_11 (ct_ckI ha0 (by unfold inI; omega) h0) lkX7_123 rfl (by decide) (Nat.le_of_ble_eq_true rfl) rfl ?_
  refine x_iload_n (pc := 14) dX7_charge_14 2 rfl ?_
  refine x_iconst (pc := 15) dX7_charge_15 ?_
  refine x_ldc (pc := 16) (z := 100000) dX7_charge_16 kcX7_249 (by decide) ?_
  refine x_callS (pc := 18) _ dX7_charge_18 (ct_ckR ha1 (by unfold inI; omega) (by unfold inI; omega) h1) lkX7_80 rfl (by decide) (Nat.le_of_ble_eq_true rfl) rfl ?_
  refine x_aload_n (pc := 21) dX7_charge_21 0 rfl ?_
  refine y_getR (pc := 22) dX7_charge_22 flX7_38 rfl rfl rfl (by decide) ?_
  refine x_aload_n (pc := 25) dX7_charge_25 0 rfl ?_
  refine y_getR (pc := 26) dX7_charge_26 flX7_15 rfl rfl rfl (by decide) ?_
  refine y_getR (pc := 29) (b := 0) dX7_charge_29 flX7_93 rfl rfl rfl (by decide) ?_
  refine x_callV (pc := 32) _ dX7_charge_32 (ct_push hh0 hh1) lkX7_259 rfl rfl rfl rfl (mem_dom0 (by decide) (by decide)) (by decide) (Nat.le_of_ble_eq_true rfl) rfl ?_
  have hf2 := push_f hP hB
  have hP2 := hf2.1
  have hB2 := hf2.2
  have k0 : pushC m 0 0 = m 0 0 := push_k (by decide)
  have k1 : pushC m 1 0 = m 1 0 := push_k (by decide)
  have k2 : pushC m 2 0 = m 2 0 := push_k (by decide)
  have k3 : pushC m 3 0 = m 3 0 := push_k (by decide)
  have k22 : pushC m 22 0 = m 22 0 := push_k (by decide)
  have j2 : pushC m 2 0 0 = m 2 0 0 := by rw [k2]
  have j1 : pushC m 1 0 0 = m 1 0 0 := by rw [k1]
  have j22 : pushC m 22 0 2 = m 22 0 2 := by rw [k22]
  have j226 : pushC m 22 0 6 = m 22 0 6 := by rw [k22]
  have j0 : pushC m 0 0 0 = m 0 0 0 := by rw [k0]
  have pf2 := BS_pf hP2 hB2 h0.1 (show a0 < pushC m 22 0 2 by omega)
  have qf2 := BP_qf hP2 h0.1 (show a0 < pushC m 22 0 2 by omega)
  have cb2 := roomC_b pf2
  have c2 := (hB2.2.1 _ h0.1 (show a0 < pushC m 22 0 2 by omega)).1
  have cp := pf2.2.1
  refine x_aload_n (pc := 35) dX7_charge_35 0 rfl ?_
  refine y_getR (pc := 36) dX7_charge_36 flX7_15 rfl rfl rfl (by decide) ?_
  refine y_getR (pc := 39) (b := 0) dX7_charge_39 flX7_93 rfl rfl rfl (by decide) ?_
  refine x_dup (pc := 42) dX7_charge_42 rfl ?_
  refine y_getL (pc := 43) 1 dX7_charge_43 flX7_235 rfl rfl rfl (by decide) ?_
  refine x_iload_n (pc := 46) dX7_charge_46 2 rfl ?_
  refine x_i2l (pc := 47) dX7_charge_47 (by unfold inI; omega) ?_
  refine x_ladd (pc := 48) dX7_charge_48 ?_
  refine y_putL (pc := 49) 1 dX7_charge_49 fwX7_235 rfl rfl rfl (by decide) ?_
  refine x_aload_n (pc := 52) dX7_charge_52 0 rfl ?_
  refine y_getR (pc := 53) dX7_charge_53 flX7_15 rfl rfl rfl (by decide) ?_
  refine x_iload_n (pc := 56) dX7_charge_56 1 rfl ?_
  refine x_iload_n (pc := 57) dX7_charge_57 2 rfl ?_
  refine x_callV (pc := 58) _ dX7_charge_58 (ct_get (w := 0) (by decide) a0 a1 pf2 (show 0 ≤ pushC m 3 0 a0 + a1 ∧ pushC m 3 0 a0 + a1 ≤ 1000000 by omega)) lkX7_274 rfl rfl rfl rfl (mem_dom0 (by decide) (by decide)) (by decide) (Nat.le_of_ble_eq_true rfl) rfl ?_
  refine x_aload_n (pc := 61) dX7_charge_61 0 rfl ?_
  refine y_getR (pc := 62) dX7_charge_62 flX7_15 rfl rfl rfl (by decide) ?_
  refine y_getR (pc := 65) (b := 0) dX7_charge_65 flX7_93 rfl rfl rfl (by decide) ?_
  refine y_getR (pc := 68) dX7_charge_68 flX7_135 rfl rfl rfl (by decide) ?_
  refine x_iload_n (pc := 71) dX7_charge_71 1 rfl ?_
  refine y_iald (pc := 72) dX7_charge_72 rfl (by decide) (by omega) ?_
  exact y_iret (pc := 73) dX7_charge_73 rfl rfl rfl
theorem Px_charge_0 {G : GG} {m : Mem} (hP : BP m 0) (hB : BS m 0 0) (hT : m 0 0 0 ≤ 9999) (hh0 : 0 ≤ m 36 0 0 ∧ m 36 0 0 ≤ 8) (hh1 : 0 ≤ m 36 0 1 ∧ m 36 0 1 < 8) {a0 a1 : Int} (ha0 : inI a0) (ha1 : inI a1)  (h0 : ¬ (0 ≤ a0 ∧ a0 < m 22 0 2)) : Ct G MX7_charge (rmE 1) [rf G 38 0, .int (iI a0), .int (iI a1)] (hp (m)) (.inr ioE) (hp (m)) := by
  refine x_entry (by decide +kernel) mwX7_charge rfl (Nat.le_of_ble_eq_true rfl) ?_
  show X G MX7_charge (rmE 1) 0 [(0, rf G 38 0), (1, .int (iI a0)), (2, .int (iI a1))] [] (hp (m)) 0 0 (.inr ioE) (hp (m))
  have n8 := hP.2.2.1
  have n4 := hP.2.2.2.1
  have n12 := hP.2.2.2.2.2.1
  have nc8 := hP.2.2.2.2.2.2.1
  have tb := hB.1
  have nt16 := hB.2.2.2.1.1
  have nl16 := hB.2.2.2.2.1.1
  refine x_iload_n (pc := 0) dX7_charge_0 1 rfl ?_
  refine x_aload_n (pc := 1) dX7_charge_1 0 rfl ?_
  refine y_getR (pc := 2) dX7_charge_2 flX7_15 rfl rfl rfl (by decide) ?_
  refine y_getR (pc := 5) (b := 0) dX7_charge_5 flX7_21 rfl rfl rfl (by decide) ?_
  refine y_getI (pc := 8) 2 dX7_charge_8 flX7_74 rfl rfl rfl (by decide) ?_
  exact x_callSX (pc := 11) _ dX7_charge_11 (ct_ckIx ha0 (by unfold inI; omega) h0) lkX7_123 rfl rfl (by decide) (Nat.le_of_ble_eq_true rfl) rfl
theorem Px_charge_1 {G : GG} {m : Mem} (hP : BP m 0) (hB : BS m 0 0) (hT : m 0 0 0 ≤ 9999) (hh0 : 0 ≤ m 36 0 0 ∧ m 36 0 0 ≤ 8) (hh1 : 0 ≤ m 36 0 1 ∧ m 36 0 1 < 8) {a0 a1 : Int} (ha0 : inI a0) (ha1 : inI a1) (h0 : 0 ≤ a0 ∧ a0 < m 22 0 2) (h1 : ¬ (1 ≤ a1 ∧ a1 ≤ 100000)) : Ct G MX7_charge (rmE 1) [rf G 38 0, .int (iI a0), .int (iI a1)] (hp (m)) (.inr iaE) (hp (m)) := by
  refine x_entry (by decide +kernel) mwX7_charge rfl (Nat.le_of_ble_eq_true rfl) ?_
  show X G MX7_charge (rmE 1) 0 [(0, rf G 38 0), (1, .int (iI a0)), (2, .int (iI a1))] [] (hp (m)) 0 0 (.inr iaE) (hp (m))
  have n8 := hP.2.2.1
  have n4 := hP.2.2.2.1
  have n12 := hP.2.2.2.2.2.1
  have nc8 := hP.2.2.2.2.2.2.1
  have tb := hB.1
  have nt16 := hB.2.2.2.1.1
  have nl16 := hB.2.2.2.2.1.1
  refine x_iload_n (pc := 0) dX7_charge_0 1 rfl ?_
  refine x_aload_n (pc := 1) dX7_charge_1 0 rfl ?_
  refine y_getR (pc := 2) dX7_charge_2 flX7_15 rfl rfl rfl (by decide) ?_
  refine y_getR (pc := 5) (b := 0) dX7_charge_5 flX7_21 rfl rfl rfl (by decide) ?_
  refine y_getI (pc := 8) 2 dX7_charge_8 flX7_74 rfl rfl rfl (by decide) ?_
  refine x_callS (pc := 11) _ dX7_charge_11 (ct_ckI ha0 (by unfold inI; omega) h0) lkX7_123 rfl (by decide) (Nat.le_of_ble_eq_true rfl) rfl ?_
  refine x_iload_n (pc := 14) dX7_charge_14 2 rfl ?_
  refine x_iconst (pc := 15) dX7_charge_15 ?_
  refine x_ldc (pc := 16) (z := 100000) dX7_charge_16 kcX7_249 (by decide) ?_
  exact x_callSX (pc := 18) _ dX7_charge_18 (ct_ckRx ha1 (by unfold inI; omega) (by unfold inI; omega) h1) lkX7_80 rfl rfl (by decide) (Nat.le_of_ble_eq_true rfl) rfl
theorem P_drain {G : GG} {m : Mem} (hP : BP m 0) (hB : BS m 0 0) (hT : m 0 0 0 ≤ 9999) (hh0 : 0 ≤ m 36 0 0 ∧ m 36 0 0 ≤ 8) (hh1 : 0 ≤ m 36 0 1 ∧ m 36 0 1 < 8) {a0 a1 : Int} (ha0 : inI a0) (ha1 : inI a1) (h0 : 0 ≤ a0 ∧ a0 < m 22 0 2) (h1 : 1 ≤ a1 ∧ a1 ≤ 100000)  : Ct G MX7_drain (rmD 9) [rf G 38 0, .int (iI a0), .int (iI a1)] (hp (m)) (.inl (some (.int (iI ((min a1 (pushC m 3 0 a0))))))) (hp (giveC (up3 (pushC m) 0 0 2 (pushC m 0 0 2 + (min a1 (pushC m 3 0 a0)))) 0 0 a0 (min a1 (pushC m 3 0 a0)))) := by
  refine x_entry (by decide +kernel) mwX7_drain rfl (Nat.le_of_ble_eq_true rfl) ?_
  show X G MX7_drain (rmD 9) 0 [(0, rf G 38 0), (1, .int (iI a0)), (2, .int (iI a1))] [] (hp (m)) 0 0 (.inl (some (.int (iI ((min a1 (pushC m 3 0 a0))))))) (hp (giveC (up3 (pushC m) 0 0 2 (pushC m 0 0 2 + (min a1 (pushC m 3 0 a0)))) 0 0 a0 (min a1 (pushC m 3 0 a0))))
  have n8 := hP.2.2.1
  have n4 := hP.2.2.2.1
  have n12 := hP.2.2.2.2.2.1
  have nc8 := hP.2.2.2.2.2.2.1
  have tb := hB.1
  have nt16 := hB.2.2.2.1.1
  have nl16 := hB.2.2.2.2.1.1
  refine x_iload_n (pc := 0) dX7_drain_0 1 rfl ?_
  refine x_aload_n (pc := 1) dX7_drain_1 0 rfl ?_
  refine y_getR (pc := 2) dX7_drain_2 flX7_15 rfl rfl rfl (by decide) ?_
  refine y_getR (pc := 5) (b := 0) dX7_drain_5 flX7_21 rfl rfl rfl (by decide) ?_
  refine y_getI (pc := 8) 2 dX7_drain_8 flX7_74 rfl rfl rfl (by decide) ?_
  refine x_callS (pc := 11) _ dX7_drain_11 (ct_ckI ha0 (by unfold inI; omega) h0) lkX7_123 rfl (by decide) (Nat.le_of_ble_eq_true rfl) rfl ?_
  refine x_iload_n (pc := 14) dX7_drain_14 2 rfl ?_
  refine x_iconst (pc := 15) dX7_drain_15 ?_
  refine x_ldc (pc := 16) (z := 100000) dX7_drain_16 kcX7_249 (by decide) ?_
  refine x_callS (pc := 18) _ dX7_drain_18 (ct_ckR ha1 (by unfold inI; omega) (by unfold inI; omega) h1) lkX7_80 rfl (by decide) (Nat.le_of_ble_eq_true rfl) rfl ?_
  refine x_aload_n (pc := 21) dX7_drain_21 0 rfl ?_
  refine y_getR (pc := 22) dX7_drain_22 flX7_38 rfl rfl rfl (by decide) ?_
  refine x_aload_n (pc := 25) dX7_drain_25 0 rfl ?_
  refine y_getR (pc := 26) dX7_drain_26 flX7_15 rfl rfl rfl (by decide) ?_
  refine y_getR (pc := 29) (b := 0) dX7_drain_29 flX7_93 rfl rfl rfl (by decide) ?_
  refine x_callV (pc := 32) _ dX7_drain_32 (ct_push hh0 hh1) lkX7_259 rfl rfl rfl rfl (mem_dom0 (by decide) (by decide)) (by decide) (Nat.le_of_ble_eq_true rfl) rfl ?_
  have hf2 := push_f hP hB
  have hP2 := hf2.1
  have hB2 := hf2.2
  have k0 : pushC m 0 0 = m 0 0 := push_k (by decide)
  have k1 : pushC m 1 0 = m 1 0 := push_k (by decide)
  have k2 : pushC m 2 0 = m 2 0 := push_k (by decide)
  have k3 : pushC m 3 0 = m 3 0 := push_k (by decide)
  have k22 : pushC m 22 0 = m 22 0 := push_k (by decide)
  have j2 : pushC m 2 0 0 = m 2 0 0 := by rw [k2]
  have j1 : pushC m 1 0 0 = m 1 0 0 := by rw [k1]
  have j22 : pushC m 22 0 2 = m 22 0 2 := by rw [k22]
  have j226 : pushC m 22 0 6 = m 22 0 6 := by rw [k22]
  have j0 : pushC m 0 0 0 = m 0 0 0 := by rw [k0]
  have pf2 := BS_pf hP2 hB2 h0.1 (show a0 < pushC m 22 0 2 by omega)
  have qf2 := BP_qf hP2 h0.1 (show a0 < pushC m 22 0 2 by omega)
  have cb2 := roomC_b pf2
  have c2 := (hB2.2.1 _ h0.1 (show a0 < pushC m 22 0 2 by omega)).1
  have cp := pf2.2.1
  refine x_iload_n (pc := 35) dX7_drain_35 2 rfl ?_
  refine x_aload_n (pc := 36) dX7_drain_36 0 rfl ?_
  refine y_getR (pc := 37) dX7_drain_37 flX7_15 rfl rfl rfl (by decide) ?_
  refine y_getR (pc := 40) (b := 0) dX7_drain_40 flX7_93 rfl rfl rfl (by decide) ?_
  refine y_getR (pc := 43) dX7_drain_43 flX7_135 rfl rfl rfl (by decide) ?_
  refine x_iload_n (pc := 46) dX7_drain_46 1 rfl ?_
  refine y_iald (pc := 47) dX7_drain_47 rfl (by decide) (by omega) ?_
  refine x_min (pc := 48) dX7_drain_48 lmX7_277 (by unfold inI; omega) (by unfold inI; omega) (by decide) (Nat.le_of_ble_eq_true rfl) (by decide) (by decide) ?_
  refine x_istore_n (pc := 51) (lv' := [(3, _), (0, _), (1, _), (2, _)]) dX7_drain_51 rfl (by decide) rfl ?_
  refine x_aload_n (pc := 52) dX7_drain_52 1 rfl ?_
  refine y_getR (pc := 53) dX7_drain_53 flX7_15 rfl rfl rfl (by decide) ?_
  refine y_getR (pc := 56) (b := 0) dX7_drain_56 flX7_93 rfl rfl rfl (by decide) ?_
  refine x_dup (pc := 59) dX7_drain_59 rfl ?_
  refine y_getL (pc := 60) 2 dX7_drain_60 flX7_239 rfl rfl rfl (by decide) ?_
  refine x_iload_n (pc := 63) dX7_drain_63 0 rfl ?_
  refine x_i2l (pc := 64) dX7_drain_64 (by unfold inI; omega) ?_
  refine x_ladd (pc := 65) dX7_drain_65 ?_
  refine y_putL (pc := 66) 2 dX7_drain_66 fwX7_239 rfl rfl rfl (by decide) ?_
  refine x_aload_n (pc := 69) dX7_drain_69 1 rfl ?_
  refine y_getR (pc := 70) dX7_drain_70 flX7_15 rfl rfl rfl (by decide) ?_
  refine x_iload_n (pc := 73) dX7_drain_73 2 rfl ?_
  refine x_iload_n (pc := 74) dX7_drain_74 0 rfl ?_
  refine x_callV (pc := 75) _ dX7_drain_75 (ct_give (w := 0) (by decide) a0 _ pf2 qf2 (show 0 ≤ (min a1 (pushC m 3 0 a0)) ∧ (min a1 (pushC m 3 0 a0)) ≤ pushC m 3 0 a0 ∧ (min a1 (pushC m 3 0 a0)) ≤ 1000000 by omega)) lkX7_282 rfl rfl rfl rfl (mem_dom0 (by decide) (by decide)) (by decide) (Nat.le_of_ble_eq_true rfl) rfl ?_
  refine x_pop (pc := 78) dX7_drain_78 rfl ?_
  refine x_iload_n (pc := 79) dX7_drain_79 0 rfl ?_
  exact y_iret (pc := 80) dX7_drain_80 rfl rfl rfl
theorem Px_drain_0 {G : GG} {m : Mem} (hP : BP m 0) (hB : BS m 0 0) (hT : m 0 0 0 ≤ 9999) (hh0 : 0 ≤ m 36 0 0 ∧ m 36 0 0 ≤ 8) (hh1 : 0 ≤ m 36 0 1 ∧ m 36 0 1 < 8) {a0 a1 : Int} (ha0 : inI a0) (ha1 : inI a1)  (h0 : ¬ (0 ≤ a0 ∧ a0 < m 22 0 2)) : Ct G MX7_drain (rmE 1) [rf G 38 0, .int (iI a0), .int (iI a1)] (hp (m)) (.inr ioE) (hp (m)) := by
  refine x_entry (by decide +kernel) mwX7_drain rfl (Nat.le_of_ble_eq_true rfl) ?_
  show X G MX7_drain (rmE 1) 0 [(0, rf G 38 0), (1, .int (iI a0)), (2, .int (iI a1))] [] (hp (m)) 0 0 (.inr ioE) (hp (m))
  have n8 := hP.2.2.1
  have n4 := hP.2.2.2.1
  have n12 := hP.2.2.2.2.2.1
  have nc8 := hP.2.2.2.2.2.2.1
  have tb := hB.1
  have nt16 := hB.2.2.2.1.1
  have nl16 := hB.2.2.2.2.1.1
  refine x_iload_n (pc := 0) dX7_drain_0 1 rfl ?_
  refine x_aload_n (pc := 1) dX7_drain_1 0 rfl ?_
  refine y_getR (pc := 2) dX7_drain_2 flX7_15 rfl rfl rfl (by decide) ?_
  refine y_getR (pc := 5) (b := 0) dX7_drain_5 flX7_21 rfl rfl rfl (by decide) ?_
  refine y_getI (pc := 8) 2 dX7_drain_8 flX7_74 rfl rfl rfl (by decide) ?_
  exact x_callSX (pc := 11) _ dX7_drain_11 (ct_ckIx ha0 (by unfold inI; omega) h0) lkX7_123 rfl rfl (by decide) (Nat.le_of_ble_eq_true rfl) rfl
theorem Px_drain_1 {G : GG} {m : Mem} (hP : BP m 0) (hB : BS m 0 0) (hT : m 0 0 0 ≤ 9999) (hh0 : 0 ≤ m 36 0 0 ∧ m 36 0 0 ≤ 8) (hh1 : 0 ≤ m 36 0 1 ∧ m 36 0 1 < 8) {a0 a1 : Int} (ha0 : inI a0) (ha1 : inI a1) (h0 : 0 ≤ a0 ∧ a0 < m 22 0 2) (h1 : ¬ (1 ≤ a1 ∧ a1 ≤ 100000)) : Ct G MX7_drain (rmE 1) [rf G 38 0, .int (iI a0), .int (iI a1)] (hp (m)) (.inr iaE) (hp (m)) := by
  refine x_entry (by decide +kernel) mwX7_drain rfl (Nat.le_of_ble_eq_true rfl) ?_
  show X G MX7_drain (rmE 1) 0 [(0, rf G 38 0), (1, .int (iI a0)), (2, .int (iI a1))] [] (hp (m)) 0 0 (.inr iaE) (hp (m))
  have n8 := hP.2.2.1
  have n4 := hP.2.2.2.1
  have n12 := hP.2.2.2.2.2.1
  have nc8 := hP.2.2.2.2.2.2.1
  have tb := hB.1
  have nt16 := hB.2.2.2.1.1
  have nl16 := hB.2.2.2.2.1.1
  refine x_iload_n (pc := 0) dX7_drain_0 1 rfl ?_
  refine x_aload_n (pc := 1) dX7_drain_1 0 rfl ?_
  refine y_getR (pc := 2) dX7_drain_2 flX7_15 rfl rfl rfl (by decide) ?_
  refine y_getR (pc := 5) (b := 0) dX7_drain_5 flX7_21 rfl rfl rfl (by decide) ?_
  refine y_getI (pc := 8) 2 dX7_drain_8 flX7_74 rfl rfl rfl (by decide) ?_
  refine x_callS (pc := 11) _ dX7_drain_11 (ct_ckI ha0 (by unfold inI; omega) h0) lkX7_123 rfl (by decide) (Nat.le_of_ble_eq_true rfl) rfl ?_
  refine x_iload_n (pc := 14) dX7_drain_14 2 rfl ?_
  refine x_iconst (pc := 15) dX7_drain_15 ?_
  refine x_ldc (pc := 16) (z := 100000) dX7_drain_16 kcX7_249 (by decide) ?_
  exact x_callSX (pc := 18) _ dX7_drain_18 (ct_ckRx ha1 (by unfold inI; omega) (by unfold inI; omega) h1) lkX7_80 rfl rfl (by decide) (Nat.le_of_ble_eq_true rfl) rfl
theorem P_setReserve {G : GG} {m : Mem} (hP : BP m 0) (hB : BS m 0 0) (hT : m 0 0 0 ≤ 9999) (hh0 : 0 ≤ m 36 0 0 ∧ m 36 0 0 ≤ 8) (hh1 : 0 ≤ m 36 0 1 ∧ m 36 0 1 < 8) {a0 a1 : Int} (ha0 : inI a0) (ha1 : inI a1) (h0 : 0 ≤ a0 ∧ a0 < m 22 0 2) (h1 : 0 ≤ a1 ∧ a1 ≤ 100000)  : Ct G MX7_setReserve (rmD 9) [rf G 38 0, .int (iI a0), .int (iI a1)] (hp (m)) (.inl (some (.int (iI (pushC m 5 0 a0))))) (hp (up3 (pushC m) 5 0 a0 a1)) := by
  refine x_entry (by decide +kernel) mwX7_setReserve rfl (Nat.le_of_ble_eq_true rfl) ?_
  show X G MX7_setReserve (rmD 9) 0 [(0, rf G 38 0), (1, .int (iI a0)), (2, .int (iI a1))] [] (hp (m)) 0 0 (.inl (some (.int (iI (pushC m 5 0 a0))))) (hp (up3 (pushC m) 5 0 a0 a1))
  have n8 := hP.2.2.1
  have n4 := hP.2.2.2.1
  have n12 := hP.2.2.2.2.2.1
  have nc8 := hP.2.2.2.2.2.2.1
  have tb := hB.1
  have nt16 := hB.2.2.2.1.1
  have nl16 := hB.2.2.2.2.1.1
  refine x_iload_n (pc := 0) dX7_setReserve_0 1 rfl ?_
  refine x_aload_n (pc := 1) dX7_setReserve_1 0 rfl ?_
  refine y_getR (pc := 2) dX7_setReserve_2 flX7_15 rfl rfl rfl (by decide) ?_
  refine y_getR (pc := 5) (b := 0) dX7_setReserve_5 flX7_21 rfl rfl rfl (by decide) ?_
  refine y_getI (pc := 8) 2 dX7_setReserve_8 flX7_74 rfl rfl rfl (by decide) ?_
  refine x_callS (pc := 11) _ dX7_setReserve_11 (ct_ckI ha0 (by unfold inI; omega) h0) lkX7_123 rfl (by decide) (Nat.le_of_ble_eq_true rfl) rfl ?_
  refine x_iload_n (pc := 14) dX7_setReserve_14 2 rfl ?_
  refine x_iconst (pc := 15) dX7_setReserve_15 ?_
  refine x_ldc (pc := 16) (z := 100000) dX7_setReserve_16 kcX7_249 (by decide) ?_
  refine x_callS (pc := 18) _ dX7_setReserve_18 (ct_ckR ha1 (by unfold inI; omega) (by unfold inI; omega) h1) lkX7_80 rfl (by decide) (Nat.le_of_ble_eq_true rfl) rfl ?_
  refine x_aload_n (pc := 21) dX7_setReserve_21 0 rfl ?_
  refine y_getR (pc := 22) dX7_setReserve_22 flX7_38 rfl rfl rfl (by decide) ?_
  refine x_aload_n (pc := 25) dX7_setReserve_25 0 rfl ?_
  refine y_getR (pc := 26) dX7_setReserve_26 flX7_15 rfl rfl rfl (by decide) ?_
  refine y_getR (pc := 29) (b := 0) dX7_setReserve_29 flX7_93 rfl rfl rfl (by decide) ?_
  refine x_callV (pc := 32) _ dX7_setReserve_32 (ct_push hh0 hh1) lkX7_259 rfl rfl rfl rfl (mem_dom0 (by decide) (by decide)) (by decide) (Nat.le_of_ble_eq_true rfl) rfl ?_
  have hf2 := push_f hP hB
  have hP2 := hf2.1
  have hB2 := hf2.2
  have k0 : pushC m 0 0 = m 0 0 := push_k (by decide)
  have k1 : pushC m 1 0 = m 1 0 := push_k (by decide)
  have k2 : pushC m 2 0 = m 2 0 := push_k (by decide)
  have k3 : pushC m 3 0 = m 3 0 := push_k (by decide)
  have k22 : pushC m 22 0 = m 22 0 := push_k (by decide)
  have j2 : pushC m 2 0 0 = m 2 0 0 := by rw [k2]
  have j1 : pushC m 1 0 0 = m 1 0 0 := by rw [k1]
  have j22 : pushC m 22 0 2 = m 22 0 2 := by rw [k22]
  have j226 : pushC m 22 0 6 = m 22 0 6 := by rw [k22]
  have j0 : pushC m 0 0 0 = m 0 0 0 := by rw [k0]
  refine x_aload_n (pc := 35) dX7_setReserve_35 0 rfl ?_
  refine y_getR (pc := 36) dX7_setReserve_36 flX7_15 rfl rfl rfl (by decide) ?_
  refine y_getR (pc := 39) (b := 0) dX7_setReserve_39 flX7_93 rfl rfl rfl (by decide) ?_
  refine y_getR (pc := 42) dX7_setReserve_42 flX7_144 rfl rfl rfl (by decide) ?_
  refine x_iload_n (pc := 45) dX7_setReserve_45 1 rfl ?_
  refine y_iald (pc := 46) dX7_setReserve_46 rfl (by decide) (by omega) ?_
  refine x_istore_n (pc := 47) (lv' := [(3, _), (0, _), (1, _), (2, _)]) dX7_setReserve_47 rfl (by decide) rfl ?_
  refine x_aload_n (pc := 48) dX7_setReserve_48 1 rfl ?_
  refine y_getR (pc := 49) dX7_setReserve_49 flX7_15 rfl rfl rfl (by decide) ?_
  refine y_getR (pc := 52) (b := 0) dX7_setReserve_52 flX7_93 rfl rfl rfl (by decide) ?_
  refine y_getR (pc := 55) dX7_setReserve_55 flX7_144 rfl rfl rfl (by decide) ?_
  refine x_iload_n (pc := 58) dX7_setReserve_58 2 rfl ?_
  refine x_iload_n (pc := 59) dX7_setReserve_59 3 rfl ?_
  refine y_iast (pc := 60) dX7_setReserve_60 rfl (by decide) (by omega) ?_
  refine x_iload_n (pc := 61) dX7_setReserve_61 0 rfl ?_
  exact y_iret (pc := 62) dX7_setReserve_62 rfl rfl rfl
theorem Px_setReserve_0 {G : GG} {m : Mem} (hP : BP m 0) (hB : BS m 0 0) (hT : m 0 0 0 ≤ 9999) (hh0 : 0 ≤ m 36 0 0 ∧ m 36 0 0 ≤ 8) (hh1 : 0 ≤ m 36 0 1 ∧ m 36 0 1 < 8) {a0 a1 : Int} (ha0 : inI a0) (ha1 : inI a1)  (h0 : ¬ (0 ≤ a0 ∧ a0 < m 22 0 2)) : Ct G MX7_setReserve (rmE 1) [rf G 38 0, .int (iI a0), .int (iI a1)] (hp (m)) (.inr ioE) (hp (m)) := by
  refine x_entry (by decide +kernel) mwX7_setReserve rfl (Nat.le_of_ble_eq_true rfl) ?_
  show X G MX7_setReserve (rmE 1) 0 [(0, rf G 38 0), (1, .int (iI a0)), (2, .int (iI a1))] [] (hp (m)) 0 0 (.inr ioE) (hp (m))
  have n8 := hP.2.2.1
  have n4 := hP.2.2.2.1
  have n12 := hP.2.2.2.2.2.1
  have nc8 := hP.2.2.2.2.2.2.1
  have tb := hB.1
  have nt16 := hB.2.2.2.1.1
  have nl16 := hB.2.2.2.2.1.1
  refine x_iload_n (pc := 0) dX7_setReserve_0 1 rfl ?_
  refine x_aload_n (pc := 1) dX7_setReserve_1 0 rfl ?_
  refine y_getR (pc := 2) dX7_setReserve_2 flX7_15 rfl rfl rfl (by decide) ?_
  refine y_getR (pc := 5) (b := 0) dX7_setReserve_5 flX7_21 rfl rfl rfl (by decide) ?_
  refine y_getI (pc := 8) 2 dX7_setReserve_8 flX7_74 rfl rfl rfl (by decide) ?_
  exact x_callSX (pc := 11) _ dX7_setReserve_11 (ct_ckIx ha0 (by unfold inI; omega) h0) lkX7_123 rfl rfl (by decide) (Nat.le_of_ble_eq_true rfl) rfl
theorem Px_setReserve_1 {G : GG} {m : Mem} (hP : BP m 0) (hB : BS m 0 0) (hT : m 0 0 0 ≤ 9999) (hh0 : 0 ≤ m 36 0 0 ∧ m 36 0 0 ≤ 8) (hh1 : 0 ≤ m 36 0 1 ∧ m 36 0 1 < 8) {a0 a1 : Int} (ha0 : inI a0) (ha1 : inI a1) (h0 : 0 ≤ a0 ∧ a0 < m 22 0 2) (h1 : ¬ (0 ≤ a1 ∧ a1 ≤ 100000)) : Ct G MX7_setReserve (rmE 1) [rf G 38 0, .int (iI a0), .int (iI a1)] (hp (m)) (.inr iaE) (hp (m)) := by
  refine x_entry (by decide +kernel) mwX7_setReserve rfl (Nat.le_of_ble_eq_true rfl) ?_
  show X G MX7_setReserve (rmE 1) 0 [(0, rf G 38 0), (1, .int (iI a0)), (2, .int (iI a1))] [] (hp (m)) 0 0 (.inr iaE) (hp (m))
  have n8 := hP.2.2.1
  have n4 := hP.2.2.2.1
  have n12 := hP.2.2.2.2.2.1
  have nc8 := hP.2.2.2.2.2.2.1
  have tb := hB.1
  have nt16 := hB.2.2.2.1.1
  have nl16 := hB.2.2.2.2.1.1
  refine x_iload_n (pc := 0) dX7_setReserve_0 1 rfl ?_
  refine x_aload_n (pc := 1) dX7_setReserve_1 0 rfl ?_
  refine y_getR (pc := 2) dX7_setReserve_2 flX7_15 rfl rfl rfl (by decide) ?_
  refine y_getR (pc := 5) (b := 0) dX7_setReserve_5 flX7_21 rfl rfl rfl (by decide) ?_
  refine y_getI (pc := 8) 2 dX7_setReserve_8 flX7_74 rfl rfl rfl (by decide) ?_
  refine x_callS (pc := 11) _ dX7_setReserve_11 (ct_ckI ha0 (by unfold inI; omega) h0) lkX7_123 rfl (by decide) (Nat.le_of_ble_eq_true rfl) rfl ?_
  refine x_iload_n (pc := 14) dX7_setReserve_14 2 rfl ?_
  refine x_iconst (pc := 15) dX7_setReserve_15 ?_
  refine x_ldc (pc := 16) (z := 100000) dX7_setReserve_16 kcX7_249 (by decide) ?_
  exact x_callSX (pc := 18) _ dX7_setReserve_18 (ct_ckRx ha1 (by unfold inI; omega) (by unfold inI; omega) h1) lkX7_80 rfl rfl (by decide) (Nat.le_of_ble_eq_true rfl) rfl
theorem P_setCable0 {G : GG} {m : Mem} (hP : BP m 0) (hB : BS m 0 0) (hT : m 0 0 0 ≤ 9999) (hh0 : 0 ≤ m 36 0 0 ∧ m 36 0 0 ≤ 8) (hh1 : 0 ≤ m 36 0 1 ∧ m 36 0 1 < 8) {a0 a1 a2 a3 : Int} (ha0 : inI a0) (ha1 : inI a1) (ha2 : inI a2) (ha3 : inI a3) (h0 : 0 ≤ a0 ∧ a0 < m 22 0 2) (h1 : 0 ≤ a1 ∧ a1 < m 22 0 2) (h2 : 0 ≤ a2 ∧ a2 ≤ 900) (h3 : 1 ≤ a3 ∧ a3 ≤ 10000) (hz : m 27 0 (a0 * 8 + a1) = -1) : Ct G MX7_setCable (rmD 9) [rf G 38 0, .int (iI a0), .int (iI a1), .int (iI a2), .int (iI a3)] (hp (m)) (.inl (some (.int (iI (-1))))) (hp (m)) := by
  refine x_entry (by decide +kernel) mwX7_setCable rfl (Nat.le_of_ble_eq_true rfl) ?_
  show X G MX7_setCable (rmD 9) 0 [(0, rf G 38 0), (1, .int (iI a0)), (2, .int (iI a1)), (3, .int (iI a2)), (4, .int (iI a3))] [] (hp (m)) 0 0 (.inl (some (.int (iI (-1))))) (hp (m))
  have n8 := hP.2.2.1
  have n4 := hP.2.2.2.1
  have n12 := hP.2.2.2.2.2.1
  have nc8 := hP.2.2.2.2.2.2.1
  have tb := hB.1
  have nt16 := hB.2.2.2.1.1
  have nl16 := hB.2.2.2.2.1.1
  have cb := hP.2.2.2.2.2.2.2.2.2.2.1 _ _ h0.1 h0.2 h1.1 h1.2
  refine x_iload_n (pc := 0) dX7_setCable_0 1 rfl ?_
  refine x_aload_n (pc := 1) dX7_setCable_1 0 rfl ?_
  refine y_getR (pc := 2) dX7_setCable_2 flX7_15 rfl rfl rfl (by decide) ?_
  refine y_getR (pc := 5) (b := 0) dX7_setCable_5 flX7_21 rfl rfl rfl (by decide) ?_
  refine y_getI (pc := 8) 2 dX7_setCable_8 flX7_74 rfl rfl rfl (by decide) ?_
  refine x_callS (pc := 11) _ dX7_setCable_11 (ct_ckI ha0 (by unfold inI; omega) h0) lkX7_123 rfl (by decide) (Nat.le_of_ble_eq_true rfl) rfl ?_
  refine x_iload_n (pc := 14) dX7_setCable_14 2 rfl ?_
  refine x_aload_n (pc := 15) dX7_setCable_15 0 rfl ?_
  refine y_getR (pc := 16) dX7_setCable_16 flX7_15 rfl rfl rfl (by decide) ?_
  refine y_getR (pc := 19) (b := 0) dX7_setCable_19 flX7_21 rfl rfl rfl (by decide) ?_
  refine y_getI (pc := 22) 2 dX7_setCable_22 flX7_74 rfl rfl rfl (by decide) ?_
  refine x_callS (pc := 25) _ dX7_setCable_25 (ct_ckI ha1 (by unfold inI; omega) h1) lkX7_123 rfl (by decide) (Nat.le_of_ble_eq_true rfl) rfl ?_
  refine x_iload_n (pc := 28) dX7_setCable_28 3 rfl ?_
  refine x_iconst (pc := 29) dX7_setCable_29 ?_
  refine x_sipush (pc := 30) (z := 900) dX7_setCable_30 (by decide) ?_
  refine x_callS (pc := 33) _ dX7_setCable_33 (ct_ckR ha2 (by unfold inI; omega) (by unfold inI; omega) h2) lkX7_80 rfl (by decide) (Nat.le_of_ble_eq_true rfl) rfl ?_
  refine x_iload (pc := 36) dX7_setCable_36 4 rfl ?_
  refine x_iconst (pc := 38) dX7_setCable_38 ?_
  refine x_sipush (pc := 39) (z := 10000) dX7_setCable_39 (by decide) ?_
  refine x_callS (pc := 42) _ dX7_setCable_42 (ct_ckR ha3 (by unfold inI; omega) (by unfold inI; omega) h3) lkX7_80 rfl (by decide) (Nat.le_of_ble_eq_true rfl) rfl ?_
  refine x_aload_n (pc := 45) dX7_setCable_45 0 rfl ?_
  refine y_getR (pc := 46) dX7_setCable_46 flX7_15 rfl rfl rfl (by decide) ?_
  refine y_getR (pc := 49) (b := 0) dX7_setCable_49 flX7_21 rfl rfl rfl (by decide) ?_
  refine x_iload_n (pc := 52) dX7_setCable_52 1 rfl ?_
  refine x_iload_n (pc := 53) dX7_setCable_53 2 rfl ?_
  refine x_callV (pc := 54) _ dX7_setCable_54 (ct_cableBetween (p := 0) (by decide) a0 a1 (by omega) (by omega)) lkX7_154 rfl rfl rfl rfl (mem_dom0 (by decide) (by decide)) (by decide) (Nat.le_of_ble_eq_true rfl) rfl ?_
  refine x_istore (pc := 57) (lv' := [(5, _), (0, _), (1, _), (2, _), (3, _), (4, _)]) dX7_setCable_57 (by decide) rfl ?_
  refine x_iload (pc := 59) dX7_setCable_59 0 rfl ?_
  refine x_iconst (pc := 61) dX7_setCable_61 ?_
  refine x_icmp_ne (pc := 62) 67 dX7_setCable_62 (by decide) (by unfold inI; omega) (by unfold inI; omega) (fun c_62 => absurd c_62 (fun z => z hz)) (fun c_62 => ?_)
  refine x_iconst (pc := 65) dX7_setCable_65 ?_
  exact y_iret (pc := 66) dX7_setCable_66 rfl rfl rfl
theorem Px_setCable_0 {G : GG} {m : Mem} (hP : BP m 0) (hB : BS m 0 0) (hT : m 0 0 0 ≤ 9999) (hh0 : 0 ≤ m 36 0 0 ∧ m 36 0 0 ≤ 8) (hh1 : 0 ≤ m 36 0 1 ∧ m 36 0 1 < 8) {a0 a1 a2 a3 : Int} (ha0 : inI a0) (ha1 : inI a1) (ha2 : inI a2) (ha3 : inI a3)  (h0 : ¬ (0 ≤ a0 ∧ a0 < m 22 0 2)) : Ct G MX7_setCable (rmE 1) [rf G 38 0, .int (iI a0), .int (iI a1), .int (iI a2), .int (iI a3)] (hp (m)) (.inr ioE) (hp (m)) := by
  refine x_entry (by decide +kernel) mwX7_setCable rfl (Nat.le_of_ble_eq_true rfl) ?_
  show X G MX7_setCable (rmE 1) 0 [(0, rf G 38 0), (1, .int (iI a0)), (2, .int (iI a1)), (3, .int (iI a2)), (4, .int (iI a3))] [] (hp (m)) 0 0 (.inr ioE) (hp (m))
  have n8 := hP.2.2.1
  have n4 := hP.2.2.2.1
  have n12 := hP.2.2.2.2.2.1
  have nc8 := hP.2.2.2.2.2.2.1
  have tb := hB.1
  have nt16 := hB.2.2.2.1.1
  have nl16 := hB.2.2.2.2.1.1
  refine x_iload_n (pc := 0) dX7_setCable_0 1 rfl ?_
  refine x_aload_n (pc := 1) dX7_setCable_1 0 rfl ?_
  refine y_getR (pc := 2) dX7_setCable_2 flX7_15 rfl rfl rfl (by decide) ?_
  refine y_getR (pc := 5) (b := 0) dX7_setCable_5 flX7_21 rfl rfl rfl (by decide) ?_
  refine y_getI (pc := 8) 2 dX7_setCable_8 flX7_74 rfl rfl rfl (by decide) ?_
  exact x_callSX (pc := 11) _ dX7_setCable_11 (ct_ckIx ha0 (by unfold inI; omega) h0) lkX7_123 rfl rfl (by decide) (Nat.le_of_ble_eq_true rfl) rfl
theorem Px_setCable_1 {G : GG} {m : Mem} (hP : BP m 0) (hB : BS m 0 0) (hT : m 0 0 0 ≤ 9999) (hh0 : 0 ≤ m 36 0 0 ∧ m 36 0 0 ≤ 8) (hh1 : 0 ≤ m 36 0 1 ∧ m 36 0 1 < 8) {a0 a1 a2 a3 : Int} (ha0 : inI a0) (ha1 : inI a1) (ha2 : inI a2) (ha3 : inI a3) (h0 : 0 ≤ a0 ∧ a0 < m 22 0 2) (h1 : ¬ (0 ≤ a1 ∧ a1 < m 22 0 2)) : Ct G MX7_setCable (rmE 1) [rf G 38 0, .int (iI a0), .int (iI a1), .int (iI a2), .int (iI a3)] (hp (m)) (.inr ioE) (hp (m)) := by
  refine x_entry (by decide +kernel) mwX7_setCable rfl (Nat.le_of_ble_eq_true rfl) ?_
  show X G MX7_setCable (rmE 1) 0 [(0, rf G 38 0), (1, .int (iI a0)), (2, .int (iI a1)), (3, .int (iI a2)), (4, .int (iI a3))] [] (hp (m)) 0 0 (.inr ioE) (hp (m))
  have n8 := hP.2.2.1
  have n4 := hP.2.2.2.1
  have n12 := hP.2.2.2.2.2.1
  have nc8 := hP.2.2.2.2.2.2.1
  have tb := hB.1
  have nt16 := hB.2.2.2.1.1
  have nl16 := hB.2.2.2.2.1.1
  refine x_iload_n (pc := 0) dX7_setCable_0 1 rfl ?_
  refine x_aload_n (pc := 1) dX7_setCable_1 0 rfl ?_
  refine y_getR (pc := 2) dX7_setCable_2 flX7_15 rfl rfl rfl (by decide) ?_
  refine y_getR (pc := 5) (b := 0) dX7_setCable_5 flX7_21 rfl rfl rfl (by decide) ?_
  refine y_getI (pc := 8) 2 dX7_setCable_8 flX7_74 rfl rfl rfl (by decide) ?_
  refine x_callS (pc := 11) _ dX7_setCable_11 (ct_ckI ha0 (by unfold inI; omega) h0) lkX7_123 rfl (by decide) (Nat.le_of_ble_eq_true rfl) rfl ?_
  refine x_iload_n (pc := 14) dX7_setCable_14 2 rfl ?_
  refine x_aload_n (pc := 15) dX7_setCable_15 0 rfl ?_
  refine y_getR (pc := 16) dX7_setCable_16 flX7_15 rfl rfl rfl (by decide) ?_
  refine y_getR (pc := 19) (b := 0) dX7_setCable_19 flX7_21 rfl rfl rfl (by decide) ?_
  refine y_getI (pc := 22) 2 dX7_setCable_22 flX7_74 rfl rfl rfl (by decide) ?_
  exact x_callSX (pc := 25) _ dX7_setCable_25 (ct_ckIx ha1 (by unfold inI; omega) h1) lkX7_123 rfl rfl (by decide) (Nat.le_of_ble_eq_true rfl) rfl
theorem Px_setCable_2 {G : GG} {m : Mem} (hP : BP m 0) (hB : BS m 0 0) (hT : m 0 0 0 ≤ 9999) (hh0 : 0 ≤ m 36 0 0 ∧ m 36 0 0 ≤ 8) (hh1 : 0 ≤ m 36 0 1 ∧ m 36 0 1 < 8) {a0 a1 a2 a3 : Int} (ha0 : inI a0) (ha1 : inI a1) (ha2 : inI a2) (ha3 : inI a3) (h0 : 0 ≤ a0 ∧ a0 < m 22 0 2) (h1 : 0 ≤ a1 ∧ a1 < m 22 0 2) (h2 : ¬ (0 ≤ a2 ∧ a2 ≤ 900)) : Ct G MX7_setCable (rmE 1) [rf G 38 0, .int (iI a0), .int (iI a1), .int (iI a2), .int (iI a3)] (hp (m)) (.inr iaE) (hp (m)) := by
  refine x_entry (by decide +kernel) mwX7_setCable rfl (Nat.le_of_ble_eq_true rfl) ?_
  show X G MX7_setCable (rmE 1) 0 [(0, rf G 38 0), (1, .int (iI a0)), (2, .int (iI a1)), (3, .int (iI a2)), (4, .int (iI a3))] [] (hp (m)) 0 0 (.inr iaE) (hp (m))
  have n8 := hP.2.2.1
  have n4 := hP.2.2.2.1
  have n12 := hP.2.2.2.2.2.1
  have nc8 := hP.2.2.2.2.2.2.1
  have tb := hB.1
  have nt16 := hB.2.2.2.1.1
  have nl16 := hB.2.2.2.2.1.1
  refine x_iload_n (pc := 0) dX7_setCable_0 1 rfl ?_
  refine x_aload_n (pc := 1) dX7_setCable_1 0 rfl ?_
  refine y_getR (pc := 2) dX7_setCable_2 flX7_15 rfl rfl rfl (by decide) ?_
  refine y_getR (pc := 5) (b := 0) dX7_setCable_5 flX7_21 rfl rfl rfl (by decide) ?_
  refine y_getI (pc := 8) 2 dX7_setCable_8 flX7_74 rfl rfl rfl (by decide) ?_
  refine x_callS (pc := 11) _ dX7_setCable_11 (ct_ckI ha0 (by unfold inI; omega) h0) lkX7_123 rfl (by decide) (Nat.le_of_ble_eq_true rfl) rfl ?_
  refine x_iload_n (pc := 14) dX7_setCable_14 2 rfl ?_
  refine x_aload_n (pc := 15) dX7_setCable_15 0 rfl ?_
  refine y_getR (pc := 16) dX7_setCable_16 flX7_15 rfl rfl rfl (by decide) ?_
  refine y_getR (pc := 19) (b := 0) dX7_setCable_19 flX7_21 rfl rfl rfl (by decide) ?_
  refine y_getI (pc := 22) 2 dX7_setCable_22 flX7_74 rfl rfl rfl (by decide) ?_
  refine x_callS (pc := 25) _ dX7_setCable_25 (ct_ckI ha1 (by unfold inI; omega) h1) lkX7_123 rfl (by decide) (Nat.le_of_ble_eq_true rfl) rfl ?_
  refine x_iload_n (pc := 28) dX7_setCable_28 3 rfl ?_
  refine x_iconst (pc := 29) dX7_setCable_29 ?_
  refine x_sipush (pc := 30) (z := 900) dX7_setCable_30 (by decide) ?_
  exact x_callSX (pc := 33) _ dX7_setCable_33 (ct_ckRx ha2 (by unfold inI; omega) (by unfold inI; omega) h2) lkX7_80 rfl rfl (by decide) (Nat.le_of_ble_eq_true rfl) rfl
theorem Px_setCable_3 {G : GG} {m : Mem} (hP : BP m 0) (hB : BS m 0 0) (hT : m 0 0 0 ≤ 9999) (hh0 : 0 ≤ m 36 0 0 ∧ m 36 0 0 ≤ 8) (hh1 : 0 ≤ m 36 0 1 ∧ m 36 0 1 < 8) {a0 a1 a2 a3 : Int} (ha0 : inI a0) (ha1 : inI a1) (ha2 : inI a2) (ha3 : inI a3) (h0 : 0 ≤ a0 ∧ a0 < m 22 0 2) (h1 : 0 ≤ a1 ∧ a1 < m 22 0 2) (h2 : 0 ≤ a2 ∧ a2 ≤ 900) (h3 : ¬ (1 ≤ a3 ∧ a3 ≤ 10000)) : Ct G MX7_setCable (rmE 1) [rf G 38 0, .int (iI a0), .int (iI a1), .int (iI a2), .int (iI a3)] (hp (m)) (.inr iaE) (hp (m)) := by
  refine x_entry (by decide +kernel) mwX7_setCable rfl (Nat.le_of_ble_eq_true rfl) ?_
  show X G MX7_setCable (rmE 1) 0 [(0, rf G 38 0), (1, .int (iI a0)), (2, .int (iI a1)), (3, .int (iI a2)), (4, .int (iI a3))] [] (hp (m)) 0 0 (.inr iaE) (hp (m))
  have n8 := hP.2.2.1
  have n4 := hP.2.2.2.1
  have n12 := hP.2.2.2.2.2.1
  have nc8 := hP.2.2.2.2.2.2.1
  have tb := hB.1
  have nt16 := hB.2.2.2.1.1
  have nl16 := hB.2.2.2.2.1.1
  refine x_iload_n (pc := 0) dX7_setCable_0 1 rfl ?_
  refine x_aload_n (pc := 1) dX7_setCable_1 0 rfl ?_
  refine y_getR (pc := 2) dX7_setCable_2 flX7_15 rfl rfl rfl (by decide) ?_
  refine y_getR (pc := 5) (b := 0) dX7_setCable_5 flX7_21 rfl rfl rfl (by decide) ?_
  refine y_getI (pc := 8) 2 dX7_setCable_8 flX7_74 rfl rfl rfl (by decide) ?_
  refine x_callS (pc := 11) _ dX7_setCable_11 (ct_ckI ha0 (by unfold inI; omega) h0) lkX7_123 rfl (by decide) (Nat.le_of_ble_eq_true rfl) rfl ?_
  refine x_iload_n (pc := 14) dX7_setCable_14 2 rfl ?_
  refine x_aload_n (pc := 15) dX7_setCable_15 0 rfl ?_
  refine y_getR (pc := 16) dX7_setCable_16 flX7_15 rfl rfl rfl (by decide) ?_
  refine y_getR (pc := 19) (b := 0) dX7_setCable_19 flX7_21 rfl rfl rfl (by decide) ?_
  refine y_getI (pc := 22) 2 dX7_setCable_22 flX7_74 rfl rfl rfl (by decide) ?_
  refine x_callS (pc := 25) _ dX7_setCable_25 (ct_ckI ha1 (by unfold inI; omega) h1) lkX7_123 rfl (by decide) (Nat.le_of_ble_eq_true rfl) rfl ?_
  refine x_iload_n (pc := 28) dX7_setCable_28 3 rfl ?_
  refine x_iconst (pc := 29) dX7_setCable_29 ?_
  refine x_sipush (pc := 30) (z := 900) dX7_setCable_30 (by decide) ?_
  refine x_callS (pc := 33) _ dX7_setCable_33 (ct_ckR ha2 (by unfold inI; omega) (by unfold inI; omega) h2) lkX7_80 rfl (by decide) (Nat.le_of_ble_eq_true rfl) rfl ?_
  refine x_iload (pc := 36) dX7_setCable_36 4 rfl ?_
  refine x_iconst (pc := 38) dX7_setCable_38 ?_
  refine x_sipush (pc := 39) (z := 10000) dX7_setCable_39 (by decide) ?_
  exact x_callSX (pc := 42) _ dX7_setCable_42 (ct_ckRx ha3 (by unfold inI; omega) (by unfold inI; omega) h3) lkX7_80 rfl rfl (by decide) (Nat.le_of_ble_eq_true rfl) rfl
theorem P_setCable1 {G : GG} {m : Mem} (hP : BP m 0) (hB : BS m 0 0) (hT : m 0 0 0 ≤ 9999) (hh0 : 0 ≤ m 36 0 0 ∧ m 36 0 0 ≤ 8) (hh1 : 0 ≤ m 36 0 1 ∧ m 36 0 1 < 8) {a0 a1 a2 a3 : Int} (ha0 : inI a0) (ha1 : inI a1) (ha2 : inI a2) (ha3 : inI a3) (h0 : 0 ≤ a0 ∧ a0 < m 22 0 2) (h1 : 0 ≤ a1 ∧ a1 < m 22 0 2) (h2 : 0 ≤ a2 ∧ a2 ≤ 900) (h3 : 1 ≤ a3 ∧ a3 ≤ 10000) (hz : m 27 0 (a0 * 8 + a1) ≠ -1) : Ct G MX7_setCable (rmD 9) [rf G 38 0, .int (iI a0), .int (iI a1), .int (iI a2), .int (iI a3)] (hp (m)) (.inl (some (.int (iI (pushC m 6 0 (m 27 0 (a0 * 8 + a1))))))) (hp (up3 (up3 (pushC m) 6 0 (m 27 0 (a0 * 8 + a1)) a2) 7 0 (m 27 0 (a0 * 8 + a1)) a3)) := by
  refine x_entry (by decide +kernel) mwX7_setCable rfl (Nat.le_of_ble_eq_true rfl) ?_
  show X G MX7_setCable (rmD 9) 0 [(0, rf G 38 0), (1, .int (iI a0)), (2, .int (iI a1)), (3, .int (iI a2)), (4, .int (iI a3))] [] (hp (m)) 0 0 (.inl (some (.int (iI (pushC m 6 0 (m 27 0 (a0 * 8 + a1))))))) (hp (up3 (up3 (pushC m) 6 0 (m 27 0 (a0 * 8 + a1)) a2) 7 0 (m 27 0 (a0 * 8 + a1)) a3))
  have n8 := hP.2.2.1
  have n4 := hP.2.2.2.1
  have n12 := hP.2.2.2.2.2.1
  have nc8 := hP.2.2.2.2.2.2.1
  have tb := hB.1
  have nt16 := hB.2.2.2.1.1
  have nl16 := hB.2.2.2.2.1.1
  have cb := hP.2.2.2.2.2.2.2.2.2.2.1 _ _ h0.1 h0.2 h1.1 h1.2
  refine x_iload_n (pc := 0) dX7_setCable_0 1 rfl ?_
  refine x_aload_n (pc := 1) dX7_setCable_1 0 rfl ?_
  refine y_getR (pc := 2) dX7_setCable_2 flX7_15 rfl rfl rfl (by decide) ?_
  refine y_getR (pc := 5) (b := 0) dX7_setCable_5 flX7_21 rfl rfl rfl (by decide) ?_
  refine y_getI (pc := 8) 2 dX7_setCable_8 flX7_74 rfl rfl rfl (by decide) ?_
  refine x_callS (pc := 11) _ dX7_setCable_11 (ct_ckI ha0 (by unfold inI; omega) h0) lkX7_123 rfl (by decide) (Nat.le_of_ble_eq_true rfl) rfl ?_
  refine x_iload_n (pc := 14) dX7_setCable_14 2 rfl ?_
  refine x_aload_n (pc := 15) dX7_setCable_15 0 rfl ?_
  refine y_getR (pc := 16) dX7_setCable_16 flX7_15 rfl rfl rfl (by decide) ?_
  refine y_getR (pc := 19) (b := 0) dX7_setCable_19 flX7_21 rfl rfl rfl (by decide) ?_
  refine y_getI (pc := 22) 2 dX7_setCable_22 flX7_74 rfl rfl rfl (by decide) ?_
  refine x_callS (pc := 25) _ dX7_setCable_25 (ct_ckI ha1 (by unfold inI; omega) h1) lkX7_123 rfl (by decide) (Nat.le_of_ble_eq_true rfl) rfl ?_
  refine x_iload_n (pc := 28) dX7_setCable_28 3 rfl ?_
  refine x_iconst (pc := 29) dX7_setCable_29 ?_
  refine x_sipush (pc := 30) (z := 900) dX7_setCable_30 (by decide) ?_
  refine x_callS (pc := 33) _ dX7_setCable_33 (ct_ckR ha2 (by unfold inI; omega) (by unfold inI; omega) h2) lkX7_80 rfl (by decide) (Nat.le_of_ble_eq_true rfl) rfl ?_
  refine x_iload (pc := 36) dX7_setCable_36 4 rfl ?_
  refine x_iconst (pc := 38) dX7_setCable_38 ?_
  refine x_sipush (pc := 39) (z := 10000) dX7_setCable_39 (by decide) ?_
  refine x_callS (pc := 42) _ dX7_setCable_42 (ct_ckR ha3 (by unfold inI; omega) (by unfold inI; omega) h3) lkX7_80 rfl (by decide) (Nat.le_of_ble_eq_true rfl) rfl ?_
  refine x_aload_n (pc := 45) dX7_setCable_45 0 rfl ?_
  refine y_getR (pc := 46) dX7_setCable_46 flX7_15 rfl rfl rfl (by decide) ?_
  refine y_getR (pc := 49) (b := 0) dX7_setCable_49 flX7_21 rfl rfl rfl (by decide) ?_
  refine x_iload_n (pc := 52) dX7_setCable_52 1 rfl ?_
  refine x_iload_n (pc := 53) dX7_setCable_53 2 rfl ?_
  refine x_callV (pc := 54) _ dX7_setCable_54 (ct_cableBetween (p := 0) (by decide) a0 a1 (by omega) (by omega)) lkX7_154 rfl rfl rfl rfl (mem_dom0 (by decide) (by decide)) (by decide) (Nat.le_of_ble_eq_true rfl) rfl ?_
  refine x_istore (pc := 57) (lv' := [(5, _), (0, _), (1, _), (2, _), (3, _), (4, _)]) dX7_setCable_57 (by decide) rfl ?_
  refine x_iload (pc := 59) dX7_setCable_59 0 rfl ?_
  refine x_iconst (pc := 61) dX7_setCable_61 ?_
  refine x_icmp_ne (pc := 62) 67 dX7_setCable_62 (by decide) (by unfold inI; omega) (by unfold inI; omega) (fun c_62 => ?_) (fun c_62 => absurd c_62 hz)
  refine x_aload_n (pc := 67) dX7_setCable_67 1 rfl ?_
  refine y_getR (pc := 68) dX7_setCable_68 flX7_38 rfl rfl rfl (by decide) ?_
  refine x_aload_n (pc := 71) dX7_setCable_71 1 rfl ?_
  refine y_getR (pc := 72) dX7_setCable_72 flX7_15 rfl rfl rfl (by decide) ?_
  refine y_getR (pc := 75) (b := 0) dX7_setCable_75 flX7_93 rfl rfl rfl (by decide) ?_
  refine x_callV (pc := 78) _ dX7_setCable_78 (ct_push hh0 hh1) lkX7_259 rfl rfl rfl rfl (mem_dom0 (by decide) (by decide)) (by decide) (Nat.le_of_ble_eq_true rfl) rfl ?_
  have hf2 := push_f hP hB
  have hP2 := hf2.1
  have hB2 := hf2.2
  have k0 : pushC m 0 0 = m 0 0 := push_k (by decide)
  have k1 : pushC m 1 0 = m 1 0 := push_k (by decide)
  have k2 : pushC m 2 0 = m 2 0 := push_k (by decide)
  have k3 : pushC m 3 0 = m 3 0 := push_k (by decide)
  have k22 : pushC m 22 0 = m 22 0 := push_k (by decide)
  have j2 : pushC m 2 0 0 = m 2 0 0 := by rw [k2]
  have j1 : pushC m 1 0 0 = m 1 0 0 := by rw [k1]
  have j22 : pushC m 22 0 2 = m 22 0 2 := by rw [k22]
  have j226 : pushC m 22 0 6 = m 22 0 6 := by rw [k22]
  have j0 : pushC m 0 0 0 = m 0 0 0 := by rw [k0]
  refine x_aload_n (pc := 81) dX7_setCable_81 1 rfl ?_
  refine y_getR (pc := 82) dX7_setCable_82 flX7_15 rfl rfl rfl (by decide) ?_
  refine y_getR (pc := 85) (b := 0) dX7_setCable_85 flX7_93 rfl rfl rfl (by decide) ?_
  refine y_getR (pc := 88) dX7_setCable_88 flX7_157 rfl rfl rfl (by decide) ?_
  refine x_iload (pc := 91) dX7_setCable_91 0 rfl ?_
  refine y_iald (pc := 93) dX7_setCable_93 rfl (by decide) (by omega) ?_
  refine x_istore (pc := 94) (lv' := [(6, _), (5, _), (0, _), (1, _), (2, _), (3, _), (4, _)]) dX7_setCable_94 (by decide) rfl ?_
  refine x_aload_n (pc := 96) dX7_setCable_96 2 rfl ?_
  refine y_getR (pc := 97) dX7_setCable_97 flX7_15 rfl rfl rfl (by decide) ?_
  refine y_getR (pc := 100) (b := 0) dX7_setCable_100 flX7_93 rfl rfl rfl (by decide) ?_
  refine y_getR (pc := 103) dX7_setCable_103 flX7_157 rfl rfl rfl (by decide) ?_
  refine x_iload (pc := 106) dX7_setCable_106 1 rfl ?_
  refine x_iload_n (pc := 108) dX7_setCable_108 5 rfl ?_
  refine y_iast (pc := 109) dX7_setCable_109 rfl (by decide) (by omega) ?_
  refine x_aload_n (pc := 110) dX7_setCable_110 2 rfl ?_
  refine y_getR (pc := 111) dX7_setCable_111 flX7_15 rfl rfl rfl (by decide) ?_
  refine y_getR (pc := 114) (b := 0) dX7_setCable_114 flX7_93 rfl rfl rfl (by decide) ?_
  refine y_getR (pc := 117) dX7_setCable_117 flX7_160 rfl rfl rfl (by decide) ?_
  refine x_iload (pc := 120) dX7_setCable_120 1 rfl ?_
  refine x_iload (pc := 122) dX7_setCable_122 6 rfl ?_
  refine y_iast (pc := 124) dX7_setCable_124 rfl (by decide) (by omega) ?_
  refine x_iload (pc := 125) dX7_setCable_125 0 rfl ?_
  exact y_iret (pc := 127) dX7_setCable_127 rfl rfl rfl
theorem P_addTrip0 {G : GG} {m : Mem} (hP : BP m 0) (hB : BS m 0 0) (hT : m 0 0 0 ≤ 9999) (hh0 : 0 ≤ m 36 0 0 ∧ m 36 0 0 ≤ 8) (hh1 : 0 ≤ m 36 0 1 ∧ m 36 0 1 < 8) {a0 a1 a2 : Int} (ha0 : inI a0) (ha1 : inI a1) (ha2 : inI a2) (h0 : 0 ≤ a0 ∧ a0 < m 22 0 2) (h1 : 0 ≤ a1 ∧ a1 ≤ 9999) (h2 : 1 ≤ a2 ∧ a2 ≤ 100000) (hz : 16 ≤ m 1 0 0) : Ct G MX7_addTrip (rmD 9) [rf G 38 0, .int (iI a0), .int (iI a1), .int (iI a2)] (hp (m)) (.inl (some (.int (iI (-2))))) (hp (m)) := by
  refine x_entry (by decide +kernel) mwX7_addTrip rfl (Nat.le_of_ble_eq_true rfl) ?_
  show X G MX7_addTrip (rmD 9) 0 [(0, rf G 38 0), (1, .int (iI a0)), (2, .int (iI a1)), (3, .int (iI a2))] [] (hp (m)) 0 0 (.inl (some (.int (iI (-2))))) (hp (m))
  have n8 := hP.2.2.1
  have n4 := hP.2.2.2.1
  have n12 := hP.2.2.2.2.2.1
  have nc8 := hP.2.2.2.2.2.2.1
  have tb := hB.1
  have nt16 := hB.2.2.2.1.1
  have nl16 := hB.2.2.2.2.1.1
  refine x_iload_n (pc := 0) dX7_addTrip_0 1 rfl ?_
  refine x_aload_n (pc := 1) dX7_addTrip_1 0 rfl ?_
  refine y_getR (pc := 2) dX7_addTrip_2 flX7_15 rfl rfl rfl (by decide) ?_
  refine y_getR (pc := 5) (b := 0) dX7_addTrip_5 flX7_21 rfl rfl rfl (by decide) ?_
  refine y_getI (pc := 8) 2 dX7_addTrip_8 flX7_74 rfl rfl rfl (by decide) ?_
  refine x_callS (pc := 11) _ dX7_addTrip_11 (ct_ckI ha0 (by unfold inI; omega) h0) lkX7_123 rfl (by decide) (Nat.le_of_ble_eq_true rfl) rfl ?_
  refine x_iload_n (pc := 14) dX7_addTrip_14 2 rfl ?_
  refine x_iconst (pc := 15) dX7_addTrip_15 ?_
  refine x_sipush (pc := 16) (z := 9999) dX7_addTrip_16 (by decide) ?_
  refine x_callS (pc := 19) _ dX7_addTrip_19 (ct_ckR ha1 (by unfold inI; omega) (by unfold inI; omega) h1) lkX7_80 rfl (by decide) (Nat.le_of_ble_eq_true rfl) rfl ?_
  refine x_iload_n (pc := 22) dX7_addTrip_22 3 rfl ?_
  refine x_iconst (pc := 23) dX7_addTrip_23 ?_
  refine x_ldc (pc := 24) (z := 100000) dX7_addTrip_24 kcX7_249 (by decide) ?_
  refine x_callS (pc := 26) _ dX7_addTrip_26 (ct_ckR ha2 (by unfold inI; omega) (by unfold inI; omega) h2) lkX7_80 rfl (by decide) (Nat.le_of_ble_eq_true rfl) rfl ?_
  refine x_aload_n (pc := 29) dX7_addTrip_29 0 rfl ?_
  refine y_getR (pc := 30) dX7_addTrip_30 flX7_15 rfl rfl rfl (by decide) ?_
  refine y_getR (pc := 33) (b := 0) dX7_addTrip_33 flX7_93 rfl rfl rfl (by decide) ?_
  refine y_getR (pc := 36) dX7_addTrip_36 flX7_97 rfl rfl rfl (by decide) ?_
  refine y_getI (pc := 39) 0 dX7_addTrip_39 flX7_103 rfl rfl rfl (by decide) ?_
  refine x_bipush (pc := 42) (z := 16) dX7_addTrip_42 (by decide) ?_
  refine x_icmp_lt (pc := 44) 50 dX7_addTrip_44 (by decide) (by unfold inI; omega) (by unfold inI; omega) (fun c_44 => (by exfalso; omega)) (fun c_44 => ?_)
  refine x_bipush (pc := 47) (z := (-2)) dX7_addTrip_47 (by decide) ?_
  exact y_iret (pc := 49) dX7_addTrip_49 rfl rfl rfl
theorem Px_addTrip_0 {G : GG} {m : Mem} (hP : BP m 0) (hB : BS m 0 0) (hT : m 0 0 0 ≤ 9999) (hh0 : 0 ≤ m 36 0 0 ∧ m 36 0 0 ≤ 8) (hh1 : 0 ≤ m 36 0 1 ∧ m 36 0 1 < 8) {a0 a1 a2 : Int} (ha0 : inI a0) (ha1 : inI a1) (ha2 : inI a2)  (h0 : ¬ (0 ≤ a0 ∧ a0 < m 22 0 2)) : Ct G MX7_addTrip (rmE 1) [rf G 38 0, .int (iI a0), .int (iI a1), .int (iI a2)] (hp (m)) (.inr ioE) (hp (m)) := by
  refine x_entry (by decide +kernel) mwX7_addTrip rfl (Nat.le_of_ble_eq_true rfl) ?_
  show X G MX7_addTrip (rmE 1) 0 [(0, rf G 38 0), (1, .int (iI a0)), (2, .int (iI a1)), (3, .int (iI a2))] [] (hp (m)) 0 0 (.inr ioE) (hp (m))
  have n8 := hP.2.2.1
  have n4 := hP.2.2.2.1
  have n12 := hP.2.2.2.2.2.1
  have nc8 := hP.2.2.2.2.2.2.1
  have tb := hB.1
  have nt16 := hB.2.2.2.1.1
  have nl16 := hB.2.2.2.2.1.1
  refine x_iload_n (pc := 0) dX7_addTrip_0 1 rfl ?_
  refine x_aload_n (pc := 1) dX7_addTrip_1 0 rfl ?_
  refine y_getR (pc := 2) dX7_addTrip_2 flX7_15 rfl rfl rfl (by decide) ?_
  refine y_getR (pc := 5) (b := 0) dX7_addTrip_5 flX7_21 rfl rfl rfl (by decide) ?_
  refine y_getI (pc := 8) 2 dX7_addTrip_8 flX7_74 rfl rfl rfl (by decide) ?_
  exact x_callSX (pc := 11) _ dX7_addTrip_11 (ct_ckIx ha0 (by unfold inI; omega) h0) lkX7_123 rfl rfl (by decide) (Nat.le_of_ble_eq_true rfl) rfl
theorem Px_addTrip_1 {G : GG} {m : Mem} (hP : BP m 0) (hB : BS m 0 0) (hT : m 0 0 0 ≤ 9999) (hh0 : 0 ≤ m 36 0 0 ∧ m 36 0 0 ≤ 8) (hh1 : 0 ≤ m 36 0 1 ∧ m 36 0 1 < 8) {a0 a1 a2 : Int} (ha0 : inI a0) (ha1 : inI a1) (ha2 : inI a2) (h0 : 0 ≤ a0 ∧ a0 < m 22 0 2) (h1 : ¬ (0 ≤ a1 ∧ a1 ≤ 9999)) : Ct G MX7_addTrip (rmE 1) [rf G 38 0, .int (iI a0), .int (iI a1), .int (iI a2)] (hp (m)) (.inr iaE) (hp (m)) := by
  refine x_entry (by decide +kernel) mwX7_addTrip rfl (Nat.le_of_ble_eq_true rfl) ?_
  show X G MX7_addTrip (rmE 1) 0 [(0, rf G 38 0), (1, .int (iI a0)), (2, .int (iI a1)), (3, .int (iI a2))] [] (hp (m)) 0 0 (.inr iaE) (hp (m))
  have n8 := hP.2.2.1
  have n4 := hP.2.2.2.1
  have n12 := hP.2.2.2.2.2.1
  have nc8 := hP.2.2.2.2.2.2.1
  have tb := hB.1
  have nt16 := hB.2.2.2.1.1
  have nl16 := hB.2.2.2.2.1.1
  refine x_iload_n (pc := 0) dX7_addTrip_0 1 rfl ?_
  refine x_aload_n (pc := 1) dX7_addTrip_1 0 rfl ?_
  refine y_getR (pc := 2) dX7_addTrip_2 flX7_15 rfl rfl rfl (by decide) ?_
  refine y_getR (pc := 5) (b := 0) dX7_addTrip_5 flX7_21 rfl rfl rfl (by decide) ?_
  refine y_getI (pc := 8) 2 dX7_addTrip_8 flX7_74 rfl rfl rfl (by decide) ?_
  refine x_callS (pc := 11) _ dX7_addTrip_11 (ct_ckI ha0 (by unfold inI; omega) h0) lkX7_123 rfl (by decide) (Nat.le_of_ble_eq_true rfl) rfl ?_
  refine x_iload_n (pc := 14) dX7_addTrip_14 2 rfl ?_
  refine x_iconst (pc := 15) dX7_addTrip_15 ?_
  refine x_sipush (pc := 16) (z := 9999) dX7_addTrip_16 (by decide) ?_
  exact x_callSX (pc := 19) _ dX7_addTrip_19 (ct_ckRx ha1 (by unfold inI; omega) (by unfold inI; omega) h1) lkX7_80 rfl rfl (by decide) (Nat.le_of_ble_eq_true rfl) rfl
theorem Px_addTrip_2 {G : GG} {m : Mem} (hP : BP m 0) (hB : BS m 0 0) (hT : m 0 0 0 ≤ 9999) (hh0 : 0 ≤ m 36 0 0 ∧ m 36 0 0 ≤ 8) (hh1 : 0 ≤ m 36 0 1 ∧ m 36 0 1 < 8) {a0 a1 a2 : Int} (ha0 : inI a0) (ha1 : inI a1) (ha2 : inI a2) (h0 : 0 ≤ a0 ∧ a0 < m 22 0 2) (h1 : 0 ≤ a1 ∧ a1 ≤ 9999) (h2 : ¬ (1 ≤ a2 ∧ a2 ≤ 100000)) : Ct G MX7_addTrip (rmE 1) [rf G 38 0, .int (iI a0), .int (iI a1), .int (iI a2)] (hp (m)) (.inr iaE) (hp (m)) := by
  refine x_entry (by decide +kernel) mwX7_addTrip rfl (Nat.le_of_ble_eq_true rfl) ?_
  show X G MX7_addTrip (rmE 1) 0 [(0, rf G 38 0), (1, .int (iI a0)), (2, .int (iI a1)), (3, .int (iI a2))] [] (hp (m)) 0 0 (.inr iaE) (hp (m))
  have n8 := hP.2.2.1
  have n4 := hP.2.2.2.1
  have n12 := hP.2.2.2.2.2.1
  have nc8 := hP.2.2.2.2.2.2.1
  have tb := hB.1
  have nt16 := hB.2.2.2.1.1
  have nl16 := hB.2.2.2.2.1.1
  refine x_iload_n (pc := 0) dX7_addTrip_0 1 rfl ?_
  refine x_aload_n (pc := 1) dX7_addTrip_1 0 rfl ?_
  refine y_getR (pc := 2) dX7_addTrip_2 flX7_15 rfl rfl rfl (by decide) ?_
  refine y_getR (pc := 5) (b := 0) dX7_addTrip_5 flX7_21 rfl rfl rfl (by decide) ?_
  refine y_getI (pc := 8) 2 dX7_addTrip_8 flX7_74 rfl rfl rfl (by decide) ?_
  refine x_callS (pc := 11) _ dX7_addTrip_11 (ct_ckI ha0 (by unfold inI; omega) h0) lkX7_123 rfl (by decide) (Nat.le_of_ble_eq_true rfl) rfl ?_
  refine x_iload_n (pc := 14) dX7_addTrip_14 2 rfl ?_
  refine x_iconst (pc := 15) dX7_addTrip_15 ?_
  refine x_sipush (pc := 16) (z := 9999) dX7_addTrip_16 (by decide) ?_
  refine x_callS (pc := 19) _ dX7_addTrip_19 (ct_ckR ha1 (by unfold inI; omega) (by unfold inI; omega) h1) lkX7_80 rfl (by decide) (Nat.le_of_ble_eq_true rfl) rfl ?_
  refine x_iload_n (pc := 22) dX7_addTrip_22 3 rfl ?_
  refine x_iconst (pc := 23) dX7_addTrip_23 ?_
  refine x_ldc (pc := 24) (z := 100000) dX7_addTrip_24 kcX7_249 (by decide) ?_
  exact x_callSX (pc := 26) _ dX7_addTrip_26 (ct_ckRx ha2 (by unfold inI; omega) (by unfold inI; omega) h2) lkX7_80 rfl rfl (by decide) (Nat.le_of_ble_eq_true rfl) rfl
theorem P_addTrip1 {G : GG} {m : Mem} (hP : BP m 0) (hB : BS m 0 0) (hT : m 0 0 0 ≤ 9999) (hh0 : 0 ≤ m 36 0 0 ∧ m 36 0 0 ≤ 8) (hh1 : 0 ≤ m 36 0 1 ∧ m 36 0 1 < 8) {a0 a1 a2 : Int} (ha0 : inI a0) (ha1 : inI a1) (ha2 : inI a2) (h0 : 0 ≤ a0 ∧ a0 < m 22 0 2) (h1 : 0 ≤ a1 ∧ a1 ≤ 9999) (h2 : 1 ≤ a2 ∧ a2 ≤ 100000) (hz : m 1 0 0 < 16) (hz2 : a1 < m 0 0 0) : Ct G MX7_addTrip (rmD 9) [rf G 38 0, .int (iI a0), .int (iI a1), .int (iI a2)] (hp (m)) (.inl (some (.int (iI (-4))))) (hp (m)) := by
  refine x_entry (by decide +kernel) mwX7_addTrip rfl (Nat.le_of_ble_eq_true rfl) ?_
  show X G MX7_addTrip (rmD 9) 0 [(0, rf G 38 0), (1, .int (iI a0)), (2, .int (iI a1)), (3, .int (iI a2))] [] (hp (m)) 0 0 (.inl (some (.int (iI (-4))))) (hp (m))
  have n8 := hP.2.2.1
  have n4 := hP.2.2.2.1
  have n12 := hP.2.2.2.2.2.1
  have nc8 := hP.2.2.2.2.2.2.1
  have tb := hB.1
  have nt16 := hB.2.2.2.1.1
  have nl16 := hB.2.2.2.2.1.1
  refine x_iload_n (pc := 0) dX7_addTrip_0 1 rfl ?_
  refine x_aload_n (pc := 1) dX7_addTrip_1 0 rfl ?_
  refine y_getR (pc := 2) dX7_addTrip_2 flX7_15 rfl rfl rfl (by decide) ?_
  refine y_getR (pc := 5) (b := 0) dX7_addTrip_5 flX7_21 rfl rfl rfl (by decide) ?_
  refine y_getI (pc := 8) 2 dX7_addTrip_8 flX7_74 rfl rfl rfl (by decide) ?_
  refine x_callS (pc := 11) _ dX7_addTrip_11 (ct_ckI ha0 (by unfold inI; omega) h0) lkX7_123 rfl (by decide) (Nat.le_of_ble_eq_true rfl) rfl ?_
  refine x_iload_n (pc := 14) dX7_addTrip_14 2 rfl ?_
  refine x_iconst (pc := 15) dX7_addTrip_15 ?_
  refine x_sipush (pc := 16) (z := 9999) dX7_addTrip_16 (by decide) ?_
  refine x_callS (pc := 19) _ dX7_addTrip_19 (ct_ckR ha1 (by unfold inI; omega) (by unfold inI; omega) h1) lkX7_80 rfl (by decide) (Nat.le_of_ble_eq_true rfl) rfl ?_
  refine x_iload_n (pc := 22) dX7_addTrip_22 3 rfl ?_
  refine x_iconst (pc := 23) dX7_addTrip_23 ?_
  refine x_ldc (pc := 24) (z := 100000) dX7_addTrip_24 kcX7_249 (by decide) ?_
  refine x_callS (pc := 26) _ dX7_addTrip_26 (ct_ckR ha2 (by unfold inI; omega) (by unfold inI; omega) h2) lkX7_80 rfl (by decide) (Nat.le_of_ble_eq_true rfl) rfl ?_
  refine x_aload_n (pc := 29) dX7_addTrip_29 0 rfl ?_
  refine y_getR (pc := 30) dX7_addTrip_30 flX7_15 rfl rfl rfl (by decide) ?_
  refine y_getR (pc := 33) (b := 0) dX7_addTrip_33 flX7_93 rfl rfl rfl (by decide) ?_
  refine y_getR (pc := 36) dX7_addTrip_36 flX7_97 rfl rfl rfl (by decide) ?_
  refine y_getI (pc := 39) 0 dX7_addTrip_39 flX7_103 rfl rfl rfl (by decide) ?_
  refine x_bipush (pc := 42) (z := 16) dX7_addTrip_42 (by decide) ?_
  refine x_icmp_lt (pc := 44) 50 dX7_addTrip_44 (by decide) (by unfold inI; omega) (by unfold inI; omega) (fun c_44 => ?_) (fun c_44 => (by exfalso; omega))
  refine x_iload_n (pc := 50) dX7_addTrip_50 2 rfl ?_
  refine x_aload_n (pc := 51) dX7_addTrip_51 0 rfl ?_
  refine y_getR (pc := 52) dX7_addTrip_52 flX7_15 rfl rfl rfl (by decide) ?_
  refine y_getR (pc := 55) (b := 0) dX7_addTrip_55 flX7_93 rfl rfl rfl (by decide) ?_
  refine y_getI (pc := 58) 0 dX7_addTrip_58 flX7_233 rfl rfl rfl (by decide) ?_
  refine x_icmp_ge (pc := 61) 67 dX7_addTrip_61 (by decide) (by unfold inI; omega) (by unfold inI; omega) (fun c_61 => (by exfalso; omega)) (fun c_61 => ?_)
  refine x_bipush (pc := 64) (z := (-4)) dX7_addTrip_64 (by decide) ?_
  exact y_iret (pc := 66) dX7_addTrip_66 rfl rfl rfl
theorem P_addTrip2 {G : GG} {m : Mem} (hP : BP m 0) (hB : BS m 0 0) (hT : m 0 0 0 ≤ 9999) (hh0 : 0 ≤ m 36 0 0 ∧ m 36 0 0 ≤ 8) (hh1 : 0 ≤ m 36 0 1 ∧ m 36 0 1 < 8) {a0 a1 a2 : Int} (ha0 : inI a0) (ha1 : inI a1) (ha2 : inI a2) (h0 : 0 ≤ a0 ∧ a0 < m 22 0 2) (h1 : 0 ≤ a1 ∧ a1 ≤ 9999) (h2 : 1 ≤ a2 ∧ a2 ≤ 100000) (hz : m 1 0 0 < 16) (hz2 : m 0 0 0 ≤ a1) : Ct G MX7_addTrip (rmD 9) [rf G 38 0, .int (iI a0), .int (iI a1), .int (iI a2)] (hp (m)) (.inl (some (.int (iI (pushC m 1 0 0))))) (hp (addT (pushC m) 0 a0 a1 a2)) := by
  refine x_entry (by decide +kernel) mwX7_addTrip rfl (Nat.le_of_ble_eq_true rfl) ?_
  show X G MX7_addTrip (rmD 9) 0 [(0, rf G 38 0), (1, .int (iI a0)), (2, .int (iI a1)), (3, .int (iI a2))] [] (hp (m)) 0 0 (.inl (some (.int (iI (pushC m 1 0 0))))) (hp (addT (pushC m) 0 a0 a1 a2))
  have n8 := hP.2.2.1
  have n4 := hP.2.2.2.1
  have n12 := hP.2.2.2.2.2.1
  have nc8 := hP.2.2.2.2.2.2.1
  have tb := hB.1
  have nt16 := hB.2.2.2.1.1
  have nl16 := hB.2.2.2.2.1.1
  refine x_iload_n (pc := 0) dX7_addTrip_0 1 rfl ?_
  refine x_aload_n (pc := 1) dX7_addTrip_1 0 rfl ?_
  refine y_getR (pc := 2) dX7_addTrip_2 flX7_15 rfl rfl rfl (by decide) ?_
  refine y_getR (pc := 5) (b := 0) dX7_addTrip_5 flX7_21 rfl rfl rfl (by decide) ?_
  refine y_getI (pc := 8) 2 dX7_addTrip_8 flX7_74 rfl rfl rfl (by decide) ?_
  refine x_callS (pc := 11) _ dX7_addTrip_11 (ct_ckI ha0 (by unfold inI; omega) h0) lkX7_123 rfl (by decide) (Nat.le_of_ble_eq_true rfl) rfl ?_
  refine x_iload_n (pc := 14) dX7_addTrip_14 2 rfl ?_
  refine x_iconst (pc := 15) dX7_addTrip_15 ?_
  refine x_sipush (pc := 16) (z := 9999) dX7_addTrip_16 (by decide) ?_
  refine x_callS (pc := 19) _ dX7_addTrip_19 (ct_ckR ha1 (by unfold inI; omega) (by unfold inI; omega) h1) lkX7_80 rfl (by decide) (Nat.le_of_ble_eq_true rfl) rfl ?_
  refine x_iload_n (pc := 22) dX7_addTrip_22 3 rfl ?_
  refine x_iconst (pc := 23) dX7_addTrip_23 ?_
  refine x_ldc (pc := 24) (z := 100000) dX7_addTrip_24 kcX7_249 (by decide) ?_
  refine x_callS (pc := 26) _ dX7_addTrip_26 (ct_ckR ha2 (by unfold inI; omega) (by unfold inI; omega) h2) lkX7_80 rfl (by decide) (Nat.le_of_ble_eq_true rfl) rfl ?_
  refine x_aload_n (pc := 29) dX7_addTrip_29 0 rfl ?_
  refine y_getR (pc := 30) dX7_addTrip_30 flX7_15 rfl rfl rfl (by decide) ?_
  refine y_getR (pc := 33) (b := 0) dX7_addTrip_33 flX7_93 rfl rfl rfl (by decide) ?_
  refine y_getR (pc := 36) dX7_addTrip_36 flX7_97 rfl rfl rfl (by decide) ?_
  refine y_getI (pc := 39) 0 dX7_addTrip_39 flX7_103 rfl rfl rfl (by decide) ?_
  refine x_bipush (pc := 42) (z := 16) dX7_addTrip_42 (by decide) ?_
  refine x_icmp_lt (pc := 44) 50 dX7_addTrip_44 (by decide) (by unfold inI; omega) (by unfold inI; omega) (fun c_44 => ?_) (fun c_44 => (by exfalso; omega))
  refine x_iload_n (pc := 50) dX7_addTrip_50 2 rfl ?_
  refine x_aload_n (pc := 51) dX7_addTrip_51 0 rfl ?_
  refine y_getR (pc := 52) dX7_addTrip_52 flX7_15 rfl rfl rfl (by decide) ?_
  refine y_getR (pc := 55) (b := 0) dX7_addTrip_55 flX7_93 rfl rfl rfl (by decide) ?_
  refine y_getI (pc := 58) 0 dX7_addTrip_58 flX7_233 rfl rfl rfl (by decide) ?_
  refine x_icmp_ge (pc := 61) 67 dX7_addTrip_61 (by decide) (by unfold inI; omega) (by unfold inI; omega) (fun c_61 => ?_) (fun c_61 => (by exfalso; omega))
  refine x_aload_n (pc := 67) dX7_addTrip_67 0 rfl ?_
  refine y_getR (pc := 68) dX7_addTrip_68 flX7_38 rfl rfl rfl (by decide) ?_
  refine x_aload_n (pc := 71) dX7_addTrip_71 0 rfl ?_
  refine y_getR (pc := 72) dX7_addTrip_72 flX7_15 rfl rfl rfl (by decide) ?_
  refine y_getR (pc := 75) (b := 0) dX7_addTrip_75 flX7_93 rfl rfl rfl (by decide) ?_
  refine x_callV (pc := 78) _ dX7_addTrip_78 (ct_push hh0 hh1) lkX7_259 rfl rfl rfl rfl (mem_dom0 (by decide) (by decide)) (by decide) (Nat.le_of_ble_eq_true rfl) rfl ?_
  have hf2 := push_f hP hB
  have hP2 := hf2.1
  have hB2 := hf2.2
  have k0 : pushC m 0 0 = m 0 0 := push_k (by decide)
  have k1 : pushC m 1 0 = m 1 0 := push_k (by decide)
  have k2 : pushC m 2 0 = m 2 0 := push_k (by decide)
  have k3 : pushC m 3 0 = m 3 0 := push_k (by decide)
  have k22 : pushC m 22 0 = m 22 0 := push_k (by decide)
  have j2 : pushC m 2 0 0 = m 2 0 0 := by rw [k2]
  have j1 : pushC m 1 0 0 = m 1 0 0 := by rw [k1]
  have j22 : pushC m 22 0 2 = m 22 0 2 := by rw [k22]
  have j226 : pushC m 22 0 6 = m 22 0 6 := by rw [k22]
  have j0 : pushC m 0 0 0 = m 0 0 0 := by rw [k0]
  refine x_aload_n (pc := 81) dX7_addTrip_81 0 rfl ?_
  refine y_getR (pc := 82) dX7_addTrip_82 flX7_15 rfl rfl rfl (by decide) ?_
  refine y_getR (pc := 85) (b := 0) dX7_addTrip_85 flX7_93 rfl rfl rfl (by decide) ?_
  refine y_getR (pc := 88) dX7_addTrip_88 flX7_97 rfl rfl rfl (by decide) ?_
  refine x_iload_n (pc := 91) dX7_addTrip_91 1 rfl ?_
  refine x_iload_n (pc := 92) dX7_addTrip_92 2 rfl ?_
  refine x_iload_n (pc := 93) dX7_addTrip_93 3 rfl ?_
  refine x_callV (pc := 94) _ dX7_addTrip_94 (ct_addT (s := 0) (by decide) a0 a1 a2 (by omega)) lkX7_285 rfl rfl rfl rfl (mem_dom0 (by decide) (by decide)) (by decide) (Nat.le_of_ble_eq_true rfl) rfl ?_
  exact y_iret (pc := 97) dX7_addTrip_97 rfl rfl rfl
theorem P_dropTrip0 {G : GG} {m : Mem} (hP : BP m 0) (hB : BS m 0 0) (hT : m 0 0 0 ≤ 9999) (hh0 : 0 ≤ m 36 0 0 ∧ m 36 0 0 ≤ 8) (hh1 : 0 ≤ m 36 0 1 ∧ m 36 0 1 < 8) {a0 : Int} (ha0 : inI a0) (h0 : 0 ≤ a0 ∧ a0 < m 1 0 0) (hz : m 14 0 a0 ≠ 0) : Ct G MX7_dropTrip (rmD 9) [rf G 38 0, .int (iI a0)] (hp (m)) (.inl (some (.int (iI (-3))))) (hp (m)) := by
  refine x_entry (by decide +kernel) mwX7_dropTrip rfl (Nat.le_of_ble_eq_true rfl) ?_
  show X G MX7_dropTrip (rmD 9) 0 [(0, rf G 38 0), (1, .int (iI a0))] [] (hp (m)) 0 0 (.inl (some (.int (iI (-3))))) (hp (m))
  have n8 := hP.2.2.1
  have n4 := hP.2.2.2.1
  have n12 := hP.2.2.2.2.2.1
  have nc8 := hP.2.2.2.2.2.2.1
  have tb := hB.1
  have nt16 := hB.2.2.2.1.1
  have nl16 := hB.2.2.2.2.1.1
  have tb4 := (hB.2.2.2.1.2 a0 h0.1 h0.2).2.2.2
  refine x_iload_n (pc := 0) dX7_dropTrip_0 1 rfl ?_
  refine x_aload_n (pc := 1) dX7_dropTrip_1 0 rfl ?_
  refine y_getR (pc := 2) dX7_dropTrip_2 flX7_15 rfl rfl rfl (by decide) ?_
  refine y_getR (pc := 5) (b := 0) dX7_dropTrip_5 flX7_93 rfl rfl rfl (by decide) ?_
  refine y_getR (pc := 8) dX7_dropTrip_8 flX7_97 rfl rfl rfl (by decide) ?_
  refine y_getI (pc := 11) 0 dX7_dropTrip_11 flX7_103 rfl rfl rfl (by decide) ?_
  refine x_callS (pc := 14) _ dX7_dropTrip_14 (ct_ckI ha0 (by unfold inI; omega) h0) lkX7_123 rfl (by decide) (Nat.le_of_ble_eq_true rfl) rfl ?_
  refine x_aload_n (pc := 17) dX7_dropTrip_17 0 rfl ?_
  refine y_getR (pc := 18) dX7_dropTrip_18 flX7_15 rfl rfl rfl (by decide) ?_
  refine y_getR (pc := 21) (b := 0) dX7_dropTrip_21 flX7_93 rfl rfl rfl (by decide) ?_
  refine y_getR (pc := 24) dX7_dropTrip_24 flX7_97 rfl rfl rfl (by decide) ?_
  refine y_getR (pc := 27) dX7_dropTrip_27 flX7_181 rfl rfl rfl (by decide) ?_
  refine x_iload_n (pc := 30) dX7_dropTrip_30 1 rfl ?_
  refine y_iald (pc := 31) dX7_dropTrip_31 rfl (by decide) (by omega) ?_
  refine x_if_eq (pc := 32) 38 dX7_dropTrip_32 (by decide) (by unfold inI; omega) (fun c_32 => absurd c_32 hz) (fun c_32 => ?_)
  refine x_bipush (pc := 35) (z := (-3)) dX7_dropTrip_35 (by decide) ?_
  exact y_iret (pc := 37) dX7_dropTrip_37 rfl rfl rfl
theorem Px_dropTrip_0 {G : GG} {m : Mem} (hP : BP m 0) (hB : BS m 0 0) (hT : m 0 0 0 ≤ 9999) (hh0 : 0 ≤ m 36 0 0 ∧ m 36 0 0 ≤ 8) (hh1 : 0 ≤ m 36 0 1 ∧ m 36 0 1 < 8) {a0 : Int} (ha0 : inI a0)  (h0 : ¬ (0 ≤ a0 ∧ a0 < m 1 0 0)) : Ct G MX7_dropTrip (rmE 1) [rf G 38 0, .int (iI a0)] (hp (m)) (.inr ioE) (hp (m)) := by
  refine x_entry (by decide +kernel) mwX7_dropTrip rfl (Nat.le_of_ble_eq_true rfl) ?_
  show X G MX7_dropTrip (rmE 1) 0 [(0, rf G 38 0), (1, .int (iI a0))] [] (hp (m)) 0 0 (.inr ioE) (hp (m))
  have n8 := hP.2.2.1
  have n4 := hP.2.2.2.1
  have n12 := hP.2.2.2.2.2.1
  have nc8 := hP.2.2.2.2.2.2.1
  have tb := hB.1
  have nt16 := hB.2.2.2.1.1
  have nl16 := hB.2.2.2.2.1.1
  refine x_iload_n (pc := 0) dX7_dropTrip_0 1 rfl ?_
  refine x_aload_n (pc := 1) dX7_dropTrip_1 0 rfl ?_
  refine y_getR (pc := 2) dX7_dropTrip_2 flX7_15 rfl rfl rfl (by decide) ?_
  refine y_getR (pc := 5) (b := 0) dX7_dropTrip_5 flX7_93 rfl rfl rfl (by decide) ?_
  refine y_getR (pc := 8) dX7_dropTrip_8 flX7_97 rfl rfl rfl (by decide) ?_
  refine y_getI (pc := 11) 0 dX7_dropTrip_11 flX7_103 rfl rfl rfl (by decide) ?_
  exact x_callSX (pc := 14) _ dX7_dropTrip_14 (ct_ckIx ha0 (by unfold inI; omega) h0) lkX7_123 rfl rfl (by decide) (Nat.le_of_ble_eq_true rfl) rfl
theorem P_dropTrip1 {G : GG} {m : Mem} (hP : BP m 0) (hB : BS m 0 0) (hT : m 0 0 0 ≤ 9999) (hh0 : 0 ≤ m 36 0 0 ∧ m 36 0 0 ≤ 8) (hh1 : 0 ≤ m 36 0 1 ∧ m 36 0 1 < 8) {a0 : Int} (ha0 : inI a0) (h0 : 0 ≤ a0 ∧ a0 < m 1 0 0) (hz : m 14 0 a0 = 0) : Ct G MX7_dropTrip (rmD 9) [rf G 38 0, .int (iI a0)] (hp (m)) (.inl (some (.int (iI (rmT (pushC m) 0 a0 1 0 0))))) (hp (rmT (pushC m) 0 a0)) := by
  refine x_entry (by decide +kernel) mwX7_dropTrip rfl (Nat.le_of_ble_eq_true rfl) ?_
  show X G MX7_dropTrip (rmD 9) 0 [(0, rf G 38 0), (1, .int (iI a0))] [] (hp (m)) 0 0 (.inl (some (.int (iI (rmT (pushC m) 0 a0 1 0 0))))) (hp (rmT (pushC m) 0 a0))
  have n8 := hP.2.2.1
  have n4 := hP.2.2.2.1
  have n12 := hP.2.2.2.2.2.1
  have nc8 := hP.2.2.2.2.2.2.1
  have tb := hB.1
  have nt16 := hB.2.2.2.1.1
  have nl16 := hB.2.2.2.2.1.1
  have tb4 := (hB.2.2.2.1.2 a0 h0.1 h0.2).2.2.2
  refine x_iload_n (pc := 0) dX7_dropTrip_0 1 rfl ?_
  refine x_aload_n (pc := 1) dX7_dropTrip_1 0 rfl ?_
  refine y_getR (pc := 2) dX7_dropTrip_2 flX7_15 rfl rfl rfl (by decide) ?_
  refine y_getR (pc := 5) (b := 0) dX7_dropTrip_5 flX7_93 rfl rfl rfl (by decide) ?_
  refine y_getR (pc := 8) dX7_dropTrip_8 flX7_97 rfl rfl rfl (by decide) ?_
  refine y_getI (pc := 11) 0 dX7_dropTrip_11 flX7_103 rfl rfl rfl (by decide) ?_
  refine x_callS (pc := 14) _ dX7_dropTrip_14 (ct_ckI ha0 (by unfold inI; omega) h0) lkX7_123 rfl (by decide) (Nat.le_of_ble_eq_true rfl) rfl ?_
  refine x_aload_n (pc := 17) dX7_dropTrip_17 0 rfl ?_
  refine y_getR (pc := 18) dX7_dropTrip_18 flX7_15 rfl rfl rfl (by decide) ?_
  refine y_getR (pc := 21) (b := 0) dX7_dropTrip_21 flX7_93 rfl rfl rfl (by decide) ?_
  refine y_getR (pc := 24) dX7_dropTrip_24 flX7_97 rfl rfl rfl (by decide) ?_
  refine y_getR (pc := 27) dX7_dropTrip_27 flX7_181 rfl rfl rfl (by decide) ?_
  refine x_iload_n (pc := 30) dX7_dropTrip_30 1 rfl ?_
  refine y_iald (pc := 31) dX7_dropTrip_31 rfl (by decide) (by omega) ?_
  refine x_if_eq (pc := 32) 38 dX7_dropTrip_32 (by decide) (by unfold inI; omega) (fun c_32 => ?_) (fun c_32 => absurd c_32 (fun z => z hz))
  refine x_aload_n (pc := 38) dX7_dropTrip_38 0 rfl ?_
  refine y_getR (pc := 39) dX7_dropTrip_39 flX7_38 rfl rfl rfl (by decide) ?_
  refine x_aload_n (pc := 42) dX7_dropTrip_42 0 rfl ?_
  refine y_getR (pc := 43) dX7_dropTrip_43 flX7_15 rfl rfl rfl (by decide) ?_
  refine y_getR (pc := 46) (b := 0) dX7_dropTrip_46 flX7_93 rfl rfl rfl (by decide) ?_
  refine x_callV (pc := 49) _ dX7_dropTrip_49 (ct_push hh0 hh1) lkX7_259 rfl rfl rfl rfl (mem_dom0 (by decide) (by decide)) (by decide) (Nat.le_of_ble_eq_true rfl) rfl ?_
  have hf2 := push_f hP hB
  have hP2 := hf2.1
  have hB2 := hf2.2
  have k0 : pushC m 0 0 = m 0 0 := push_k (by decide)
  have k1 : pushC m 1 0 = m 1 0 := push_k (by decide)
  have k2 : pushC m 2 0 = m 2 0 := push_k (by decide)
  have k3 : pushC m 3 0 = m 3 0 := push_k (by decide)
  have k22 : pushC m 22 0 = m 22 0 := push_k (by decide)
  have j2 : pushC m 2 0 0 = m 2 0 0 := by rw [k2]
  have j1 : pushC m 1 0 0 = m 1 0 0 := by rw [k1]
  have j22 : pushC m 22 0 2 = m 22 0 2 := by rw [k22]
  have j226 : pushC m 22 0 6 = m 22 0 6 := by rw [k22]
  have j0 : pushC m 0 0 0 = m 0 0 0 := by rw [k0]
  refine x_aload_n (pc := 52) dX7_dropTrip_52 0 rfl ?_
  refine y_getR (pc := 53) dX7_dropTrip_53 flX7_15 rfl rfl rfl (by decide) ?_
  refine y_getR (pc := 56) (b := 0) dX7_dropTrip_56 flX7_93 rfl rfl rfl (by decide) ?_
  refine y_getR (pc := 59) dX7_dropTrip_59 flX7_97 rfl rfl rfl (by decide) ?_
  refine x_iload_n (pc := 62) dX7_dropTrip_62 1 rfl ?_
  refine x_callV (pc := 63) _ dX7_dropTrip_63 (ct_rmT (s := 0) (by decide) a0 (by omega) (by omega)) lkX7_286 rfl rfl rfl rfl (mem_dom0 (by decide) (by decide)) (by decide) (Nat.le_of_ble_eq_true rfl) rfl ?_
  refine x_aload_n (pc := 66) dX7_dropTrip_66 0 rfl ?_
  refine y_getR (pc := 67) dX7_dropTrip_67 flX7_15 rfl rfl rfl (by decide) ?_
  refine y_getR (pc := 70) (b := 0) dX7_dropTrip_70 flX7_93 rfl rfl rfl (by decide) ?_
  refine y_getR (pc := 73) dX7_dropTrip_73 flX7_97 rfl rfl rfl (by decide) ?_
  refine y_getI (pc := 76) 0 dX7_dropTrip_76 flX7_103 rfl rfl rfl (by decide) ?_
  exact y_iret (pc := 79) dX7_dropTrip_79 rfl rfl rfl
theorem P_run {G : GG} {m : Mem} (hP : BP m 0) (hB : BS m 0 0) (hT : m 0 0 0 ≤ 9999) (hh0 : 0 ≤ m 36 0 0 ∧ m 36 0 0 ≤ 8) (hh1 : 0 ≤ m 36 0 1 ∧ m 36 0 1 < 8) {a0 : Int} (ha0 : inI a0) (h0 : 1 ≤ a0 ∧ a0 ≤ min 1000 (9999 - m 0 0 0))  : Ct G MX7_run (rmD 9) [rf G 38 0, .int (iI a0)] (hp (m)) (.inl (some (.int (iI (tkL (pushC m) 0 0 a0.toNat 0 0 0))))) (hp (tkL (pushC m) 0 0 a0.toNat)) := by
  refine x_entry (by decide +kernel) mwX7_run rfl (Nat.le_of_ble_eq_true rfl) ?_
  show X G MX7_run (rmD 9) 0 [(0, rf G 38 0), (1, .int (iI a0))] [] (hp (m)) 0 0 (.inl (some (.int (iI (tkL (pushC m) 0 0 a0.toNat 0 0 0))))) (hp (tkL (pushC m) 0 0 a0.toNat))
  have n8 := hP.2.2.1
  have n4 := hP.2.2.2.1
  have n12 := hP.2.2.2.2.2.1
  have nc8 := hP.2.2.2.2.2.2.1
  have tb := hB.1
  have nt16 := hB.2.2.2.1.1
  have nl16 := hB.2.2.2.2.1.1
  refine x_iload_n (pc := 0) dX7_run_0 1 rfl ?_
  refine x_iconst (pc := 1) dX7_run_1 ?_
  refine x_sipush (pc := 2) (z := 1000) dX7_run_2 (by decide) ?_
  refine x_sipush (pc := 5) (z := 9999) dX7_run_5 (by decide) ?_
  refine x_aload_n (pc := 8) dX7_run_8 0 rfl ?_
  refine y_getR (pc := 9) dX7_run_9 flX7_15 rfl rfl rfl (by decide) ?_
  refine y_getR (pc := 12) (b := 0) dX7_run_12 flX7_93 rfl rfl rfl (by decide) ?_
  refine y_getI (pc := 15) 0 dX7_run_15 flX7_233 rfl rfl rfl (by decide) ?_
  refine x_isub (pc := 18) dX7_run_18 ?_
  refine x_min (pc := 19) dX7_run_19 lmX7_277 (by unfold inI; omega) (by unfold inI; omega) (by decide) (Nat.le_of_ble_eq_true rfl) (by decide) (by decide) ?_
  refine x_callS (pc := 22) _ dX7_run_22 (ct_ckR ha0 (by unfold inI; omega) (by unfold inI; omega) h0) lkX7_80 rfl (by decide) (Nat.le_of_ble_eq_true rfl) rfl ?_
  refine x_aload_n (pc := 25) dX7_run_25 0 rfl ?_
  refine y_getR (pc := 26) dX7_run_26 flX7_38 rfl rfl rfl (by decide) ?_
  refine x_aload_n (pc := 29) dX7_run_29 0 rfl ?_
  refine y_getR (pc := 30) dX7_run_30 flX7_15 rfl rfl rfl (by decide) ?_
  refine y_getR (pc := 33) (b := 0) dX7_run_33 flX7_93 rfl rfl rfl (by decide) ?_
  refine x_callV (pc := 36) _ dX7_run_36 (ct_push hh0 hh1) lkX7_259 rfl rfl rfl rfl (mem_dom0 (by decide) (by decide)) (by decide) (Nat.le_of_ble_eq_true rfl) rfl ?_
  have hf2 := push_f hP hB
  have hP2 := hf2.1
  have hB2 := hf2.2
  have k0 : pushC m 0 0 = m 0 0 := push_k (by decide)
  have k1 : pushC m 1 0 = m 1 0 := push_k (by decide)
  have k2 : pushC m 2 0 = m 2 0 := push_k (by decide)
  have k3 : pushC m 3 0 = m 3 0 := push_k (by decide)
  have k22 : pushC m 22 0 = m 22 0 := push_k (by decide)
  have j2 : pushC m 2 0 0 = m 2 0 0 := by rw [k2]
  have j1 : pushC m 1 0 0 = m 1 0 0 := by rw [k1]
  have j22 : pushC m 22 0 2 = m 22 0 2 := by rw [k22]
  have j226 : pushC m 22 0 6 = m 22 0 6 := by rw [k22]
  have j0 : pushC m 0 0 0 = m 0 0 0 := by rw [k0]
  refine x_aload_n (pc := 39) dX7_run_39 0 rfl ?_
  refine y_getR (pc := 40) dX7_run_40 flX7_15 rfl rfl rfl (by decide) ?_
  refine x_iload_n (pc := 43) dX7_run_43 1 rfl ?_
  refine x_callV (pc := 44) _ dX7_run_44 (ct_passTicks (w := 0) (by decide) a0 (by omega) hP2 hB2 (by omega)) lkX7_290 rfl rfl rfl rfl (mem_dom0 (by decide) (by decide)) (by decide) (Nat.le_of_ble_eq_true rfl) rfl ?_
  refine x_aload_n (pc := 47) dX7_run_47 0 rfl ?_
  refine y_getR (pc := 48) dX7_run_48 flX7_15 rfl rfl rfl (by decide) ?_
  refine y_getR (pc := 51) (b := 0) dX7_run_51 flX7_93 rfl rfl rfl (by decide) ?_
  refine y_getI (pc := 54) 0 dX7_run_54 flX7_233 rfl rfl rfl (by decide) ?_
  exact y_iret (pc := 57) dX7_run_57 rfl rfl rfl
theorem Px_run_0 {G : GG} {m : Mem} (hP : BP m 0) (hB : BS m 0 0) (hT : m 0 0 0 ≤ 9999) (hh0 : 0 ≤ m 36 0 0 ∧ m 36 0 0 ≤ 8) (hh1 : 0 ≤ m 36 0 1 ∧ m 36 0 1 < 8) {a0 : Int} (ha0 : inI a0)  (h0 : ¬ (1 ≤ a0 ∧ a0 ≤ min 1000 (9999 - m 0 0 0))) : Ct G MX7_run (rmE 1) [rf G 38 0, .int (iI a0)] (hp (m)) (.inr iaE) (hp (m)) := by
  refine x_entry (by decide +kernel) mwX7_run rfl (Nat.le_of_ble_eq_true rfl) ?_
  show X G MX7_run (rmE 1) 0 [(0, rf G 38 0), (1, .int (iI a0))] [] (hp (m)) 0 0 (.inr iaE) (hp (m))
  have n8 := hP.2.2.1
  have n4 := hP.2.2.2.1
  have n12 := hP.2.2.2.2.2.1
  have nc8 := hP.2.2.2.2.2.2.1
  have tb := hB.1
  have nt16 := hB.2.2.2.1.1
  have nl16 := hB.2.2.2.2.1.1
  refine x_iload_n (pc := 0) dX7_run_0 1 rfl ?_
  refine x_iconst (pc := 1) dX7_run_1 ?_
  refine x_sipush (pc := 2) (z := 1000) dX7_run_2 (by decide) ?_
  refine x_sipush (pc := 5) (z := 9999) dX7_run_5 (by decide) ?_
  refine x_aload_n (pc := 8) dX7_run_8 0 rfl ?_
  refine y_getR (pc := 9) dX7_run_9 flX7_15 rfl rfl rfl (by decide) ?_
  refine y_getR (pc := 12) (b := 0) dX7_run_12 flX7_93 rfl rfl rfl (by decide) ?_
  refine y_getI (pc := 15) 0 dX7_run_15 flX7_233 rfl rfl rfl (by decide) ?_
  refine x_isub (pc := 18) dX7_run_18 ?_
  refine x_min (pc := 19) dX7_run_19 lmX7_277 (by unfold inI; omega) (by unfold inI; omega) (by decide) (Nat.le_of_ble_eq_true rfl) (by decide) (by decide) ?_
  exact x_callSX (pc := 22) _ dX7_run_22 (ct_ckRx ha0 (by unfold inI; omega) (by unfold inI; omega) h0) lkX7_80 rfl rfl (by decide) (Nat.le_of_ble_eq_true rfl) rfl
