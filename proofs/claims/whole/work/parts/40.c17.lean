theorem num_b {m : Mem} {s : Nat} {q t n : Int} (hn : 0 ≤ n ∧ n ≤ 16) : 0 ≤ sm (numC m s q t) n.toNat ∧ sm (numC m s q t) n.toNat ≤ 16 := by
  have h := sm_b (f := numC m s q t) (n := n.toNat) (a := 0) (b := 1) (fun i a b => by unfold numC; split <;> omega)
  omega
theorem addL_at (m : Mem) (s : Nat) (c x t l : Int) : (addL m s c x t 15 s l = if l = m 2 s 0 then c else m 15 s l) ∧ (addL m s c x t 16 s l = if l = m 2 s 0 then x else m 16 s l) ∧ (addL m s c x t 17 s l = if l = m 2 s 0 then 0 else m 17 s l) ∧ (addL m s c x t 18 s l = if l = m 2 s 0 then 0 else m 18 s l) ∧ (addL m s c x t 19 s l = if l = m 2 s 0 then 0 else m 19 s l) ∧ (addL m s c x t 20 s l = if l = m 2 s 0 then 0 else m 20 s l) ∧ (addL m s c x t 21 s l = if l = m 2 s 0 then t else m 21 s l) ∧ addL m s c x t 2 s 0 = m 2 s 0 + 1 := by
  unfold addL
  simp [up3_apply]
theorem addL_k {m : Mem} {s k : Nat} {c x t : Int} (h : k ≠ 2 ∧ ¬ (15 ≤ k ∧ k ≤ 21)) : addL m s c x t k = m k := by
  unfold addL
  funext i j
  simp only [up3_apply]
  repeat rw [if_neg (by omega)]
theorem addL_i {m : Mem} {s k i : Nat} {c x t : Int} (h : i ≠ s) : addL m s c x t k i = m k i := by
  unfold addL
  repeat rw [up3_i h]
theorem BS_addL {m : Mem} {p s : Nat} {c x t : Int} (hP : BP m p) (hB : BS m p s) (hc : 0 ≤ c ∧ c < m 22 p 6) (hx : 1 ≤ x ∧ x ≤ 100000) (ht : 0 ≤ t ∧ t ≤ 11000) (hn : m 2 s 0 < 16) : BP (addL m s c x t) p ∧ BS (addL m s c x t) p s := by
  refine ⟨hP.congr (fun k a b => by rw [addL_k (by omega)]), ?_⟩
  obtain ⟨e15, e16, e17, e18, e19, e20, e21, e2⟩ := addL_at m s c x t 0
  have E := addL_at m s c x t
  have q0 : addL m s c x t 0 = m 0 := addL_k (by omega)
  have q1 : addL m s c x t 1 = m 1 := addL_k (by omega)
  have q3 : addL m s c x t 3 = m 3 := addL_k (by omega)
  have q4 : addL m s c x t 4 = m 4 := addL_k (by omega)
  have q5 : addL m s c x t 5 = m 5 := addL_k (by omega)
  have q6 : addL m s c x t 6 = m 6 := addL_k (by omega)
  have q7 : addL m s c x t 7 = m 7 := addL_k (by omega)
  have q8 : addL m s c x t 8 = m 8 := addL_k (by omega)
  have q10 : addL m s c x t 10 = m 10 := addL_k (by omega)
  have q11 : addL m s c x t 11 = m 11 := addL_k (by omega)
  have q12 : addL m s c x t 12 = m 12 := addL_k (by omega)
  have q13 : addL m s c x t 13 = m 13 := addL_k (by omega)
  have q14 : addL m s c x t 14 = m 14 := addL_k (by omega)
  have q22 : addL m s c x t 22 = m 22 := addL_k (by omega)
  have q23 : addL m s c x t 23 = m 23 := addL_k (by omega)
  have hi0 : intC m p 0 = 0 := by
    have h := intC_b (m := m) (p := p) (x := 0) (by omega) hP.2.1
    omega
  obtain ⟨b1, b2, b3, b4, b5, b6⟩ := hB
  refine ⟨by rw [q0]; exact b1, ?_, ?_, ?_, ⟨by rw [e2]; have := b5.1; omega, fun l a b => ?_⟩, ?_⟩
  · unfold Bq roomC at *; rw [q3, q4, q5, q22, q23]; exact b2
  · unfold Bc at *; rw [q6, q7, q8, q22]; exact b3
  · unfold Bt at *; rw [q1, q11, q12, q13, q14, q22]; exact b4
  · obtain ⟨f15, f16, f17, f18, f19, f20, f21, -⟩ := E l
    rw [e2] at b
    have hI : ∀ z, intC (addL m s c x t) p z = intC m p z := fun z => by unfold intC; rw [q22]
    unfold Bl
    rw [f15, f16, f17, f18, f19, f20, f21, q22]
    simp only [hI]
    by_cases h : l = m 2 s 0
    · simp only [if_pos h, hi0]
      omega
    · simp only [if_neg h]
      exact b5.2 l a (by omega)
  · rw [q10, q22]; exact b6
def nmM (m : Mem) (q : Int) : Int := sm (numC m 1 q 2) (m 1 1 0).toNat
def miN (m : Mem) (q bf k : Int) : Nat → Int
  | 0 => -1
  | n + 1 => if bf < nmM (tkC m 0 1) q then k else miN (tkC m 0 1) q bf (k + 1) n
def miM (m : Mem) (q bf : Int) : Nat → Mem
  | 0 => m
  | n + 1 => if bf < nmM (tkC m 0 1) q then tkC m 0 1 else miM (tkC m 0 1) q bf n
theorem lp_missIn {G : GG} (q bf : Int) (hq : inI q) (hb : 0 ≤ bf ∧ bf ≤ 16) (z9 : Int) (m9 : Mem) : ∀ (n : Nat) (m : Mem) (k : Int), BP m 0 → BS m 0 1 → m 0 1 0 + n ≤ 11000 → 1 ≤ k → k + n = 501 → z9 = miN m q bf k n → m9 = miM m q bf n → X G MX7_missIn (rmD 9) 49 [(3, .int (iI k)), (0, rf G 38 0), (1, .int (iI q)), (2, .int (iI bf))] [] (hp (m)) 0 0 (.inl (some (.int (iI (z9))))) (hp (m9)) := by
  intro n
  induction n with
  | zero =>
    intro m k hP hB ht h1 hk h9 hm9
    refine x_iload_n (pc := 49) dX7_missIn_49 0 rfl ?_
    refine x_sipush (pc := 50) (z := 500) dX7_missIn_50 (by decide) ?_
    refine x_icmp_gt (pc := 53) 90 dX7_missIn_53 (by decide) (by unfold inI; omega) (by unfold inI; omega) (fun c_53 => ?_) (fun c_53 => (by exfalso; omega))
    refine x_iconst (pc := 90) dX7_missIn_90 ?_
    exact y_iret (pc := 91) dX7_missIn_91 rfl (by rw [h9]; rfl) (by rw [hm9]; rfl)
  | succ n ih =>
    intro m k hP hB ht h1 hk h9 hm9
    have b1 := tkC_f hP hB (by omega)
    have b1n := b1.2.2.2.2.1.1
    have nb := num_b (m := tkC m 0 1) (s := 1) (q := q) (t := 2) b1n
    have nb2 : 0 ≤ nmM (tkC m 0 1) q ∧ nmM (tkC m 0 1) q ≤ 16 := nb
    refine x_iload_n (pc := 49) dX7_missIn_49 0 rfl ?_
    refine x_sipush (pc := 50) (z := 500) dX7_missIn_50 (by decide) ?_
    refine x_icmp_gt (pc := 53) 90 dX7_missIn_53 (by decide) (by unfold inI; omega) (by unfold inI; omega) (fun c_53 => (by exfalso; omega)) (fun c_53 => ?_)
    refine x_aload_n (pc := 56) dX7_missIn_56 1 rfl ?_
    refine y_getR (pc := 57) dX7_missIn_57 flX7_25 rfl rfl rfl (by decide) ?_
    refine x_callV (pc := 60) _ dX7_missIn_60 (ct_passTick (w := 1) (by decide) hP hB) lkX7_298 rfl rfl rfl rfl (mem_dom0 (by decide) (by decide)) (by decide) (Nat.le_of_ble_eq_true rfl) rfl ?_
    refine x_nil (m' := tkC m 0 1) rfl ?_
    refine x_aload_n (pc := 63) dX7_missIn_63 1 rfl ?_
    refine y_getR (pc := 64) dX7_missIn_64 flX7_25 rfl rfl rfl (by decide) ?_
    refine y_getR (pc := 67) (b := 1) dX7_missIn_67 flX7_93 rfl rfl rfl (by decide) ?_
    refine y_getR (pc := 70) dX7_missIn_70 flX7_97 rfl rfl rfl (by decide) ?_
    refine x_iload_n (pc := 73) dX7_missIn_73 2 rfl ?_
    refine x_iconst (pc := 74) dX7_missIn_74 ?_
    refine x_callV (pc := 75) _ dX7_missIn_75 (ct_numberOf (s := 1) (by decide) q 2 hq (by unfold inI; omega) b1n (fun l a b => by have z := (b1.2.2.2.2.1.2 l a b); have z1 := z.1; have z4 := z.2.2.2; have z8 := b1.1.2.2.1; unfold inI; omega)) lkX7_147 rfl rfl rfl rfl (mem_dom0 (by decide) (by decide)) (by decide) (Nat.le_of_ble_eq_true rfl) rfl ?_
    refine x_top (v' := .int (iI (nmM (tkC m 0 1) q))) rfl ?_
    refine x_iload_n (pc := 78) dX7_missIn_78 3 rfl ?_
    refine x_icmp_le (pc := 79) 84 dX7_missIn_79 (by decide) (by unfold inI; omega) (by unfold inI; omega) (fun c_79 => ?_) (fun c_79 => ?_)
    · refine x_iinc (pc := 84) (lv' := [(3, _), (0, _), (1, _), (2, _)]) dX7_missIn_84 0 rfl (by decide) rfl ?_
      refine x_goto (pc := 87) 49 dX7_missIn_87 (by decide) ?_
      exact x_lv [0, 1, 2, 3] rfl (ih _ (k + 1) b1.1 b1.2 (by rw [tkC_t]; omega) (by omega) (by omega) (by rw [h9]; show (if _ then _ else _) = _; rw [if_neg (by omega)]) (by rw [hm9]; show (if _ then _ else _) = _; rw [if_neg (by omega)]))
    · refine x_iload_n (pc := 82) dX7_missIn_82 0 rfl ?_
      exact y_iret (pc := 83) dX7_missIn_83 rfl (by rw [h9]; show _ = (if _ then _ else _); rw [if_pos (by omega)]) (by rw [hm9]; show _ = (if _ then _ else _); rw [if_pos (by omega)])

theorem P_missIn {G : GG} {m : Mem} (hP : BP m 0) (hB : BS m 0 0) (hT : m 0 0 0 ≤ 9999) (hh0 : 0 ≤ m 36 0 0 ∧ m 36 0 0 ≤ 8) (hh1 : 0 ≤ m 36 0 1 ∧ m 36 0 1 < 8) {a0 : Int} (ha0 : inI a0) (h0 : 0 ≤ a0 ∧ a0 < m 22 0 2)  : Ct G MX7_missIn (rmD 9) [rf G 38 0, .int (iI a0)] (hp (m)) (.inl (some (.int (iI (miN (cpS m 0 1) a0 (sm (numC m 0 a0 2) (m 1 0 0).toNat) 1 500))))) (hp (miM (cpS m 0 1) a0 (sm (numC m 0 a0 2) (m 1 0 0).toNat) 500)) := by
  refine x_entry (by decide +kernel) mwX7_missIn rfl (Nat.le_of_ble_eq_true rfl) ?_
  show X G MX7_missIn (rmD 9) 0 [(0, rf G 38 0), (1, .int (iI a0))] [] (hp (m)) 0 0 (.inl (some (.int (iI (miN (cpS m 0 1) a0 (sm (numC m 0 a0 2) (m 1 0 0).toNat) 1 500))))) (hp (miM (cpS m 0 1) a0 (sm (numC m 0 a0 2) (m 1 0 0).toNat) 500))
  have n8 := hP.2.2.1
  have n4 := hP.2.2.2.1
  have n12 := hP.2.2.2.2.2.1
  have nc8 := hP.2.2.2.2.2.2.1
  have tb := hB.1
  have nt16 := hB.2.2.2.1.1
  have nl16 := hB.2.2.2.2.1.1
  refine x_iload_n (pc := 0) dX7_missIn_0 1 rfl ?_
  refine x_aload_n (pc := 1) dX7_missIn_1 0 rfl ?_
  refine y_getR (pc := 2) dX7_missIn_2 flX7_15 rfl rfl rfl (by decide) ?_
  refine y_getR (pc := 5) (b := 0) dX7_missIn_5 flX7_21 rfl rfl rfl (by decide) ?_
  refine y_getI (pc := 8) 2 dX7_missIn_8 flX7_74 rfl rfl rfl (by decide) ?_
  refine x_callS (pc := 11) _ dX7_missIn_11 (ct_ckI ha0 (by unfold inI; omega) h0) lkX7_123 rfl (by decide) (Nat.le_of_ble_eq_true rfl) rfl ?_
  refine x_aload_n (pc := 14) dX7_missIn_14 0 rfl ?_
  refine y_getR (pc := 15) dX7_missIn_15 flX7_15 rfl rfl rfl (by decide) ?_
  refine y_getR (pc := 18) (b := 0) dX7_missIn_18 flX7_93 rfl rfl rfl (by decide) ?_
  refine y_getR (pc := 21) dX7_missIn_21 flX7_97 rfl rfl rfl (by decide) ?_
  refine x_iload_n (pc := 24) dX7_missIn_24 1 rfl ?_
  refine x_iconst (pc := 25) dX7_missIn_25 ?_
  refine x_callV (pc := 26) _ dX7_missIn_26 (ct_numberOf (s := 0) (by decide) a0 2 ha0 (by unfold inI; omega) nt16 (fun l a b => by have z := (hB.2.2.2.1.2 l a b); have z1 := z.1; have z4 := z.2.2.2; have z8 := hP.2.2.1; unfold inI; omega)) lkX7_147 rfl rfl rfl rfl (mem_dom0 (by decide) (by decide)) (by decide) (Nat.le_of_ble_eq_true rfl) rfl ?_
  refine x_istore_n (pc := 29) (lv' := [(2, _), (0, _), (1, _)]) dX7_missIn_29 rfl (by decide) rfl ?_
  refine x_aload_n (pc := 30) dX7_missIn_30 1 rfl ?_
  refine y_getR (pc := 31) dX7_missIn_31 flX7_25 rfl rfl rfl (by decide) ?_
  refine y_getR (pc := 34) (b := 1) dX7_missIn_34 flX7_93 rfl rfl rfl (by decide) ?_
  refine x_aload_n (pc := 37) dX7_missIn_37 1 rfl ?_
  refine y_getR (pc := 38) dX7_missIn_38 flX7_15 rfl rfl rfl (by decide) ?_
  refine y_getR (pc := 41) (b := 0) dX7_missIn_41 flX7_93 rfl rfl rfl (by decide) ?_
  refine x_callV (pc := 44) _ dX7_missIn_44 (ct_State_copyFrom (a := 0) (b := 1) (by decide) (by decide) (by decide)) lkX7_296 rfl rfl rfl rfl (mem_dom0 (by decide) (by decide)) (by decide) (Nat.le_of_ble_eq_true rfl) rfl ?_
  have ff := fut_f hP hB
  have ft := fut_a (m := m) 0 0 (by decide)
  have f2 := fut_a (m := m) 2 0 (by decide)
  have f1 := fut_a (m := m) 1 0 (by decide)
  refine x_iconst (pc := 47) dX7_missIn_47 ?_
  refine x_istore_n (pc := 48) (lv' := [(3, _), (2, _), (0, _), (1, _)]) dX7_missIn_48 rfl (by decide) rfl ?_
  exact x_lv [0, 2, 3, 1] rfl (lp_missIn a0 _ ha0 (num_b nt16) _ _ 500 (cpS m 0 1) 1 ff.1 ff.2 (by omega) (by omega) (by omega) rfl rfl)

theorem Px_missIn_0 {G : GG} {m : Mem} (hP : BP m 0) (hB : BS m 0 0) (hT : m 0 0 0 ≤ 9999) (hh0 : 0 ≤ m 36 0 0 ∧ m 36 0 0 ≤ 8) (hh1 : 0 ≤ m 36 0 1 ∧ m 36 0 1 < 8) {a0 : Int} (ha0 : inI a0)  (h0 : ¬ (0 ≤ a0 ∧ a0 < m 22 0 2)) : Ct G MX7_missIn (rmE 1) [rf G 38 0, .int (iI a0)] (hp (m)) (.inr ioE) (hp (m)) := by
  refine x_entry (by decide +kernel) mwX7_missIn rfl (Nat.le_of_ble_eq_true rfl) ?_
  show X G MX7_missIn (rmE 1) 0 [(0, rf G 38 0), (1, .int (iI a0))] [] (hp (m)) 0 0 (.inr ioE) (hp (m))
  have n8 := hP.2.2.1
  have n4 := hP.2.2.2.1
  have n12 := hP.2.2.2.2.2.1
  have nc8 := hP.2.2.2.2.2.2.1
  have tb := hB.1
  have nt16 := hB.2.2.2.1.1
  have nl16 := hB.2.2.2.2.1.1
  refine x_iload_n (pc := 0) dX7_missIn_0 1 rfl ?_
  refine x_aload_n (pc := 1) dX7_missIn_1 0 rfl ?_
  refine y_getR (pc := 2) dX7_missIn_2 flX7_15 rfl rfl rfl (by decide) ?_
  refine y_getR (pc := 5) (b := 0) dX7_missIn_5 flX7_21 rfl rfl rfl (by decide) ?_
  refine y_getI (pc := 8) 2 dX7_missIn_8 flX7_74 rfl rfl rfl (by decide) ?_
  exact x_callSX (pc := 11) _ dX7_missIn_11 (ct_ckIx ha0 (by unfold inI; omega) h0) lkX7_123 rfl rfl (by decide) (Nat.le_of_ble_eq_true rfl) rfl

theorem P_isSafe0 {G : GG} {m : Mem} (hP : BP m 0) (hB : BS m 0 0) (hT : m 0 0 0 ≤ 9999) (hh0 : 0 ≤ m 36 0 0 ∧ m 36 0 0 ≤ 8) (hh1 : 0 ≤ m 36 0 1 ∧ m 36 0 1 < 8) {a0 a1 a2 : Int} (ha0 : inI a0) (ha1 : inI a1) (ha2 : inI a2) (h0 : 0 ≤ a0 ∧ a0 < m 22 0 6) (h1 : 1 ≤ a1 ∧ a1 ≤ 100000) (h2 : 1 ≤ a2 ∧ a2 ≤ 500) (hz : hinC m 0 0 a0 a1 ≠ 0) : Ct G MX7_isSafe (rmD 9) [rf G 38 0, .int (iI a0), .int (iI a1), .int (iI a2)] (hp (m)) (.inl (some (.int (iI (if False then 1 else 0))))) (hp (m)) := by
  refine x_entry (by decide +kernel) mwX7_isSafe rfl (Nat.le_of_ble_eq_true rfl) ?_
  show X G MX7_isSafe (rmD 9) 0 [(0, rf G 38 0), (1, .int (iI a0)), (2, .int (iI a1)), (3, .int (iI a2))] [] (hp (m)) 0 0 (.inl (some (.int (iI (if False then 1 else 0))))) (hp (m))
  have n8 := hP.2.2.1
  have n4 := hP.2.2.2.1
  have n12 := hP.2.2.2.2.2.1
  have nc8 := hP.2.2.2.2.2.2.1
  have tb := hB.1
  have nt16 := hB.2.2.2.1.1
  have nl16 := hB.2.2.2.2.1.1
  refine x_iload_n (pc := 0) dX7_isSafe_0 1 rfl ?_
  refine x_aload_n (pc := 1) dX7_isSafe_1 0 rfl ?_
  refine y_getR (pc := 2) dX7_isSafe_2 flX7_15 rfl rfl rfl (by decide) ?_
  refine y_getR (pc := 5) (b := 0) dX7_isSafe_5 flX7_21 rfl rfl rfl (by decide) ?_
  refine y_getI (pc := 8) 6 dX7_isSafe_8 flX7_108 rfl rfl rfl (by decide) ?_
  refine x_callS (pc := 11) _ dX7_isSafe_11 (ct_ckI ha0 (by unfold inI; omega) h0) lkX7_123 rfl (by decide) (Nat.le_of_ble_eq_true rfl) rfl ?_
  refine x_iload_n (pc := 14) dX7_isSafe_14 2 rfl ?_
  refine x_iconst (pc := 15) dX7_isSafe_15 ?_
  refine x_ldc (pc := 16) (z := 100000) dX7_isSafe_16 kcX7_249 (by decide) ?_
  refine x_callS (pc := 18) _ dX7_isSafe_18 (ct_ckR ha1 (by unfold inI; omega) (by unfold inI; omega) h1) lkX7_80 rfl (by decide) (Nat.le_of_ble_eq_true rfl) rfl ?_
  refine x_iload_n (pc := 21) dX7_isSafe_21 3 rfl ?_
  refine x_iconst (pc := 22) dX7_isSafe_22 ?_
  refine x_sipush (pc := 23) (z := 500) dX7_isSafe_23 (by decide) ?_
  refine x_callS (pc := 26) _ dX7_isSafe_26 (ct_ckR ha2 (by unfold inI; omega) (by unfold inI; omega) h2) lkX7_80 rfl (by decide) (Nat.le_of_ble_eq_true rfl) rfl ?_
  refine x_aload_n (pc := 29) dX7_isSafe_29 0 rfl ?_
  refine y_getR (pc := 30) dX7_isSafe_30 flX7_15 rfl rfl rfl (by decide) ?_
  refine x_iload_n (pc := 33) dX7_isSafe_33 1 rfl ?_
  refine x_iload_n (pc := 34) dX7_isSafe_34 2 rfl ?_
  refine x_callV (pc := 35) _ dX7_isSafe_35 (ct_hindranceOf (w := 0) (by decide) a0 a1 hP hB h0 (by omega)) lkX7_253 rfl rfl rfl rfl (mem_dom0 (by decide) (by decide)) (by decide) (Nat.le_of_ble_eq_true rfl) rfl ?_
  refine x_if_eq (pc := 38) 43 dX7_isSafe_38 (by decide) (hinC_in _ _ _ _ _) (fun c_38 => absurd c_38 hz) (fun c_38 => ?_)
  refine x_iconst (pc := 41) dX7_isSafe_41 ?_
  exact y_z0ret (pc := 42) dX7_isSafe_42 rfl id rfl

theorem Px_isSafe_0 {G : GG} {m : Mem} (hP : BP m 0) (hB : BS m 0 0) (hT : m 0 0 0 ≤ 9999) (hh0 : 0 ≤ m 36 0 0 ∧ m 36 0 0 ≤ 8) (hh1 : 0 ≤ m 36 0 1 ∧ m 36 0 1 < 8) {a0 a1 a2 : Int} (ha0 : inI a0) (ha1 : inI a1) (ha2 : inI a2)  (h0 : ¬ (0 ≤ a0 ∧ a0 < m 22 0 6)) : Ct G MX7_isSafe (rmE 1) [rf G 38 0, .int (iI a0), .int (iI a1), .int (iI a2)] (hp (m)) (.inr ioE) (hp (m)) := by
  refine x_entry (by decide +kernel) mwX7_isSafe rfl (Nat.le_of_ble_eq_true rfl) ?_
  show X G MX7_isSafe (rmE 1) 0 [(0, rf G 38 0), (1, .int (iI a0)), (2, .int (iI a1)), (3, .int (iI a2))] [] (hp (m)) 0 0 (.inr ioE) (hp (m))
  have n8 := hP.2.2.1
  have n4 := hP.2.2.2.1
  have n12 := hP.2.2.2.2.2.1
  have nc8 := hP.2.2.2.2.2.2.1
  have tb := hB.1
  have nt16 := hB.2.2.2.1.1
  have nl16 := hB.2.2.2.2.1.1
  refine x_iload_n (pc := 0) dX7_isSafe_0 1 rfl ?_
  refine x_aload_n (pc := 1) dX7_isSafe_1 0 rfl ?_
  refine y_getR (pc := 2) dX7_isSafe_2 flX7_15 rfl rfl rfl (by decide) ?_
  refine y_getR (pc := 5) (b := 0) dX7_isSafe_5 flX7_21 rfl rfl rfl (by decide) ?_
  refine y_getI (pc := 8) 6 dX7_isSafe_8 flX7_108 rfl rfl rfl (by decide) ?_
  exact x_callSX (pc := 11) _ dX7_isSafe_11 (ct_ckIx ha0 (by unfold inI; omega) h0) lkX7_123 rfl rfl (by decide) (Nat.le_of_ble_eq_true rfl) rfl

theorem Px_isSafe_1 {G : GG} {m : Mem} (hP : BP m 0) (hB : BS m 0 0) (hT : m 0 0 0 ≤ 9999) (hh0 : 0 ≤ m 36 0 0 ∧ m 36 0 0 ≤ 8) (hh1 : 0 ≤ m 36 0 1 ∧ m 36 0 1 < 8) {a0 a1 a2 : Int} (ha0 : inI a0) (ha1 : inI a1) (ha2 : inI a2) (h0 : 0 ≤ a0 ∧ a0 < m 22 0 6) (h1 : ¬ (1 ≤ a1 ∧ a1 ≤ 100000)) : Ct G MX7_isSafe (rmE 1) [rf G 38 0, .int (iI a0), .int (iI a1), .int (iI a2)] (hp (m)) (.inr iaE) (hp (m)) := by
  refine x_entry (by decide +kernel) mwX7_isSafe rfl (Nat.le_of_ble_eq_true rfl) ?_
  show X G MX7_isSafe (rmE 1) 0 [(0, rf G 38 0), (1, .int (iI a0)), (2, .int (iI a1)), (3, .int (iI a2))] [] (hp (m)) 0 0 (.inr iaE) (hp (m))
  have n8 := hP.2.2.1
  have n4 := hP.2.2.2.1
  have n12 := hP.2.2.2.2.2.1
  have nc8 := hP.2.2.2.2.2.2.1
  have tb := hB.1
  have nt16 := hB.2.2.2.1.1
  have nl16 := hB.2.2.2.2.1.1
  refine x_iload_n (pc := 0) dX7_isSafe_0 1 rfl ?_
  refine x_aload_n (pc := 1) dX7_isSafe_1 0 rfl ?_
  refine y_getR (pc := 2) dX7_isSafe_2 flX7_15 rfl rfl rfl (by decide) ?_
  refine y_getR (pc := 5) (b := 0) dX7_isSafe_5 flX7_21 rfl rfl rfl (by decide) ?_
  refine y_getI (pc := 8) 6 dX7_isSafe_8 flX7_108 rfl rfl rfl (by decide) ?_
  refine x_callS (pc := 11) _ dX7_isSafe_11 (ct_ckI ha0 (by unfold inI; omega) h0) lkX7_123 rfl (by decide) (Nat.le_of_ble_eq_true rfl) rfl ?_
  refine x_iload_n (pc := 14) dX7_isSafe_14 2 rfl ?_
  refine x_iconst (pc := 15) dX7_isSafe_15 ?_
  refine x_ldc (pc := 16) (z := 100000) dX7_isSafe_16 kcX7_249 (by decide) ?_
  exact x_callSX (pc := 18) _ dX7_isSafe_18 (ct_ckRx ha1 (by unfold inI; omega) (by unfold inI; omega) h1) lkX7_80 rfl rfl (by decide) (Nat.le_of_ble_eq_true rfl) rfl

theorem Px_isSafe_2 {G : GG} {m : Mem} (hP : BP m 0) (hB : BS m 0 0) (hT : m 0 0 0 ≤ 9999) (hh0 : 0 ≤ m 36 0 0 ∧ m 36 0 0 ≤ 8) (hh1 : 0 ≤ m 36 0 1 ∧ m 36 0 1 < 8) {a0 a1 a2 : Int} (ha0 : inI a0) (ha1 : inI a1) (ha2 : inI a2) (h0 : 0 ≤ a0 ∧ a0 < m 22 0 6) (h1 : 1 ≤ a1 ∧ a1 ≤ 100000) (h2 : ¬ (1 ≤ a2 ∧ a2 ≤ 500)) : Ct G MX7_isSafe (rmE 1) [rf G 38 0, .int (iI a0), .int (iI a1), .int (iI a2)] (hp (m)) (.inr iaE) (hp (m)) := by
  refine x_entry (by decide +kernel) mwX7_isSafe rfl (Nat.le_of_ble_eq_true rfl) ?_
  show X G MX7_isSafe (rmE 1) 0 [(0, rf G 38 0), (1, .int (iI a0)), (2, .int (iI a1)), (3, .int (iI a2))] [] (hp (m)) 0 0 (.inr iaE) (hp (m))
  have n8 := hP.2.2.1
  have n4 := hP.2.2.2.1
  have n12 := hP.2.2.2.2.2.1
  have nc8 := hP.2.2.2.2.2.2.1
  have tb := hB.1
  have nt16 := hB.2.2.2.1.1
  have nl16 := hB.2.2.2.2.1.1
  refine x_iload_n (pc := 0) dX7_isSafe_0 1 rfl ?_
  refine x_aload_n (pc := 1) dX7_isSafe_1 0 rfl ?_
  refine y_getR (pc := 2) dX7_isSafe_2 flX7_15 rfl rfl rfl (by decide) ?_
  refine y_getR (pc := 5) (b := 0) dX7_isSafe_5 flX7_21 rfl rfl rfl (by decide) ?_
  refine y_getI (pc := 8) 6 dX7_isSafe_8 flX7_108 rfl rfl rfl (by decide) ?_
  refine x_callS (pc := 11) _ dX7_isSafe_11 (ct_ckI ha0 (by unfold inI; omega) h0) lkX7_123 rfl (by decide) (Nat.le_of_ble_eq_true rfl) rfl ?_
  refine x_iload_n (pc := 14) dX7_isSafe_14 2 rfl ?_
  refine x_iconst (pc := 15) dX7_isSafe_15 ?_
  refine x_ldc (pc := 16) (z := 100000) dX7_isSafe_16 kcX7_249 (by decide) ?_
  refine x_callS (pc := 18) _ dX7_isSafe_18 (ct_ckR ha1 (by unfold inI; omega) (by unfold inI; omega) h1) lkX7_80 rfl (by decide) (Nat.le_of_ble_eq_true rfl) rfl ?_
  refine x_iload_n (pc := 21) dX7_isSafe_21 3 rfl ?_
  refine x_iconst (pc := 22) dX7_isSafe_22 ?_
  refine x_sipush (pc := 23) (z := 500) dX7_isSafe_23 (by decide) ?_
  exact x_callSX (pc := 26) _ dX7_isSafe_26 (ct_ckRx ha2 (by unfold inI; omega) (by unfold inI; omega) h2) lkX7_80 rfl rfl (by decide) (Nat.le_of_ble_eq_true rfl) rfl

theorem P_isSafe1 {G : GG} {m : Mem} (hP : BP m 0) (hB : BS m 0 0) (hT : m 0 0 0 ≤ 9999) (hh0 : 0 ≤ m 36 0 0 ∧ m 36 0 0 ≤ 8) (hh1 : 0 ≤ m 36 0 1 ∧ m 36 0 1 < 8) {a0 a1 a2 : Int} (ha0 : inI a0) (ha1 : inI a1) (ha2 : inI a2) (h0 : 0 ≤ a0 ∧ a0 < m 22 0 6) (h1 : 1 ≤ a1 ∧ a1 ≤ 100000) (h2 : 1 ≤ a2 ∧ a2 ≤ 500) (hz : hinC m 0 0 a0 a1 = 0) : Ct G MX7_isSafe (rmD 9) [rf G 38 0, .int (iI a0), .int (iI a1), .int (iI a2)] (hp (m)) (.inl (some (.int (iI (if nmM (tkL (addL (cpS (tkL (cpS m 0 1) 0 1 a2.toNat) 0 1) 1 a0 a1 ((cpS (tkL (cpS m 0 1) 0 1 a2.toNat) 0 1) 0 0 0 + a2)) 0 1 a2.toNat) (m 28 0 a0) ≤ nmM (tkL (cpS m 0 1) 0 1 a2.toNat) (m 28 0 a0) then 1 else 0))))) (hp (tkL (addL (cpS (tkL (cpS m 0 1) 0 1 a2.toNat) 0 1) 1 a0 a1 ((cpS (tkL (cpS m 0 1) 0 1 a2.toNat) 0 1) 0 0 0 + a2)) 0 1 a2.toNat)) := by
  refine x_entry (by decide +kernel) mwX7_isSafe rfl (Nat.le_of_ble_eq_true rfl) ?_
  show X G MX7_isSafe (rmD 9) 0 [(0, rf G 38 0), (1, .int (iI a0)), (2, .int (iI a1)), (3, .int (iI a2))] [] (hp (m)) 0 0 (.inl (some (.int (iI (if nmM (tkL (addL (cpS (tkL (cpS m 0 1) 0 1 a2.toNat) 0 1) 1 a0 a1 ((cpS (tkL (cpS m 0 1) 0 1 a2.toNat) 0 1) 0 0 0 + a2)) 0 1 a2.toNat) (m 28 0 a0) ≤ nmM (tkL (cpS m 0 1) 0 1 a2.toNat) (m 28 0 a0) then 1 else 0))))) (hp (tkL (addL (cpS (tkL (cpS m 0 1) 0 1 a2.toNat) 0 1) 1 a0 a1 ((cpS (tkL (cpS m 0 1) 0 1 a2.toNat) 0 1) 0 0 0 + a2)) 0 1 a2.toNat))
  have n8 := hP.2.2.1
  have n4 := hP.2.2.2.1
  have n12 := hP.2.2.2.2.2.1
  have nc8 := hP.2.2.2.2.2.2.1
  have tb := hB.1
  have nt16 := hB.2.2.2.1.1
  have nl16 := hB.2.2.2.2.1.1
  have kk := (hP.2.2.2.2.2.2.2.2.2.2.2 a0 h0.1 h0.2).1
  refine x_iload_n (pc := 0) dX7_isSafe_0 1 rfl ?_
  refine x_aload_n (pc := 1) dX7_isSafe_1 0 rfl ?_
  refine y_getR (pc := 2) dX7_isSafe_2 flX7_15 rfl rfl rfl (by decide) ?_
  refine y_getR (pc := 5) (b := 0) dX7_isSafe_5 flX7_21 rfl rfl rfl (by decide) ?_
  refine y_getI (pc := 8) 6 dX7_isSafe_8 flX7_108 rfl rfl rfl (by decide) ?_
  refine x_callS (pc := 11) _ dX7_isSafe_11 (ct_ckI ha0 (by unfold inI; omega) h0) lkX7_123 rfl (by decide) (Nat.le_of_ble_eq_true rfl) rfl ?_
  refine x_iload_n (pc := 14) dX7_isSafe_14 2 rfl ?_
  refine x_iconst (pc := 15) dX7_isSafe_15 ?_
  refine x_ldc (pc := 16) (z := 100000) dX7_isSafe_16 kcX7_249 (by decide) ?_
  refine x_callS (pc := 18) _ dX7_isSafe_18 (ct_ckR ha1 (by unfold inI; omega) (by unfold inI; omega) h1) lkX7_80 rfl (by decide) (Nat.le_of_ble_eq_true rfl) rfl ?_
  refine x_iload_n (pc := 21) dX7_isSafe_21 3 rfl ?_
  refine x_iconst (pc := 22) dX7_isSafe_22 ?_
  refine x_sipush (pc := 23) (z := 500) dX7_isSafe_23 (by decide) ?_
  refine x_callS (pc := 26) _ dX7_isSafe_26 (ct_ckR ha2 (by unfold inI; omega) (by unfold inI; omega) h2) lkX7_80 rfl (by decide) (Nat.le_of_ble_eq_true rfl) rfl ?_
  refine x_aload_n (pc := 29) dX7_isSafe_29 0 rfl ?_
  refine y_getR (pc := 30) dX7_isSafe_30 flX7_15 rfl rfl rfl (by decide) ?_
  refine x_iload_n (pc := 33) dX7_isSafe_33 1 rfl ?_
  refine x_iload_n (pc := 34) dX7_isSafe_34 2 rfl ?_
  refine x_callV (pc := 35) _ dX7_isSafe_35 (ct_hindranceOf (w := 0) (by decide) a0 a1 hP hB h0 (by omega)) lkX7_253 rfl rfl rfl rfl (mem_dom0 (by decide) (by decide)) (by decide) (Nat.le_of_ble_eq_true rfl) rfl ?_
  refine x_if_eq (pc := 38) 43 dX7_isSafe_38 (by decide) (hinC_in _ _ _ _ _) (fun c_38 => ?_) (fun c_38 => absurd c_38 (fun z => z hz))
  refine x_aload_n (pc := 43) dX7_isSafe_43 0 rfl ?_
  refine y_getR (pc := 44) dX7_isSafe_44 flX7_15 rfl rfl rfl (by decide) ?_
  refine y_getR (pc := 47) (b := 0) dX7_isSafe_47 flX7_21 rfl rfl rfl (by decide) ?_
  refine y_getR (pc := 50) dX7_isSafe_50 flX7_183 rfl rfl rfl (by decide) ?_
  refine x_iload_n (pc := 53) dX7_isSafe_53 1 rfl ?_
  refine y_iald (pc := 54) dX7_isSafe_54 rfl (by decide) (by omega) ?_
  refine x_istore (pc := 55) (lv' := [(4, _), (0, _), (1, _), (2, _), (3, _)]) dX7_isSafe_55 (by decide) rfl ?_
  refine x_aload_n (pc := 57) dX7_isSafe_57 1 rfl ?_
  refine y_getR (pc := 58) dX7_isSafe_58 flX7_25 rfl rfl rfl (by decide) ?_
  refine y_getR (pc := 61) (b := 1) dX7_isSafe_61 flX7_93 rfl rfl rfl (by decide) ?_
  refine x_aload_n (pc := 64) dX7_isSafe_64 1 rfl ?_
  refine y_getR (pc := 65) dX7_isSafe_65 flX7_15 rfl rfl rfl (by decide) ?_
  refine y_getR (pc := 68) (b := 0) dX7_isSafe_68 flX7_93 rfl rfl rfl (by decide) ?_
  refine x_callV (pc := 71) _ dX7_isSafe_71 (ct_State_copyFrom (a := 0) (b := 1) (by decide) (by decide) (by decide)) lkX7_296 rfl rfl rfl rfl (mem_dom0 (by decide) (by decide)) (by decide) (Nat.le_of_ble_eq_true rfl) rfl ?_
  have ff := fut_f hP hB
  have ft := fut_a (m := m) 0 0 (by decide)
  have f2 := fut_a (m := m) 2 0 (by decide)
  have f1 := fut_a (m := m) 1 0 (by decide)
  refine x_aload_n (pc := 74) dX7_isSafe_74 1 rfl ?_
  refine y_getR (pc := 75) dX7_isSafe_75 flX7_25 rfl rfl rfl (by decide) ?_
  refine x_iload_n (pc := 78) dX7_isSafe_78 4 rfl ?_
  refine x_callV (pc := 79) _ dX7_isSafe_79 (ct_passTicks (w := 1) (by decide) a2 (by omega) ff.1 ff.2 (by omega)) lkX7_290 rfl rfl rfl rfl (mem_dom0 (by decide) (by decide)) (by decide) (Nat.le_of_ble_eq_true rfl) rfl ?_
  refine x_nil (m' := tkL (cpS m 0 1) 0 1 a2.toNat) rfl ?_
  have g1 := tkL_f (p := 0) (s := 1) a2.toNat (cpS m 0 1) ff.1 ff.2 (by omega)
  have g1n := g1.2.2.2.2.1.1
  have w1 : ∀ k, (tkL (cpS m 0 1) 0 1 a2.toNat) k 0 = m k 0 := fun k => fut_w
  have hP1 : BP (tkL (cpS m 0 1) 0 1 a2.toNat) 0 := g1.1
  have hB1 : BS (tkL (cpS m 0 1) 0 1 a2.toNat) 0 0 := (BPS_move (m := m) (m1 := (tkL (cpS m 0 1) 0 1 a2.toNat)) (s := 0) (s1 := 0) (fun k _ => w1 k) (fun k _ _ => w1 k) hP hB).2
  refine x_aload_n (pc := 82) dX7_isSafe_82 1 rfl ?_
  refine y_getR (pc := 83) dX7_isSafe_83 flX7_25 rfl rfl rfl (by decide) ?_
  refine y_getR (pc := 86) (b := 1) dX7_isSafe_86 flX7_93 rfl rfl rfl (by decide) ?_
  refine y_getR (pc := 89) dX7_isSafe_89 flX7_97 rfl rfl rfl (by decide) ?_
  refine x_iload (pc := 92) dX7_isSafe_92 0 rfl ?_
  refine x_iconst (pc := 94) dX7_isSafe_94 ?_
  refine x_callV (pc := 95) _ dX7_isSafe_95 (ct_numberOf (s := 1) (by decide) (m 28 0 a0) 2 (by unfold inI; omega) (by unfold inI; omega) g1n (fun l a b => by have z := (g1.2.2.2.2.1.2 l a b); have z1 := z.1; have z4 := z.2.2.2; have z8 := g1.1.2.2.1; unfold inI; omega)) lkX7_147 rfl rfl rfl rfl (mem_dom0 (by decide) (by decide)) (by decide) (Nat.le_of_ble_eq_true rfl) rfl ?_
  refine x_top (v' := .int (iI (nmM (tkL (cpS m 0 1) 0 1 a2.toNat) (m 28 0 a0)))) rfl ?_
  have nb1 : 0 ≤ nmM (tkL (cpS m 0 1) 0 1 a2.toNat) (m 28 0 a0) ∧ nmM (tkL (cpS m 0 1) 0 1 a2.toNat) (m 28 0 a0) ≤ 16 := num_b g1n
  refine x_istore (pc := 98) (lv' := [(5, _), (4, _), (0, _), (1, _), (2, _), (3, _)]) dX7_isSafe_98 (by decide) rfl ?_
  refine x_aload_n (pc := 100) dX7_isSafe_100 2 rfl ?_
  refine y_getR (pc := 101) dX7_isSafe_101 flX7_25 rfl rfl rfl (by decide) ?_
  refine y_getR (pc := 104) (b := 1) dX7_isSafe_104 flX7_93 rfl rfl rfl (by decide) ?_
  refine x_aload_n (pc := 107) dX7_isSafe_107 2 rfl ?_
  refine y_getR (pc := 108) dX7_isSafe_108 flX7_15 rfl rfl rfl (by decide) ?_
  refine y_getR (pc := 111) (b := 0) dX7_isSafe_111 flX7_93 rfl rfl rfl (by decide) ?_
  refine x_callV (pc := 114) _ dX7_isSafe_114 (ct_State_copyFrom (a := 0) (b := 1) (by decide) (by decide) (by decide)) lkX7_296 rfl rfl rfl rfl (mem_dom0 (by decide) (by decide)) (by decide) (Nat.le_of_ble_eq_true rfl) rfl ?_
  refine x_nil (m' := cpS (tkL (cpS m 0 1) 0 1 a2.toNat) 0 1) rfl ?_
  have gg := fut_f hP1 hB1
  have c2 : (cpS (tkL (cpS m 0 1) 0 1 a2.toNat) 0 1) 2 1 0 = m 2 0 0 := by rw [fut_a 2 0 (by decide), w1]
  have c0 : (cpS (tkL (cpS m 0 1) 0 1 a2.toNat) 0 1) 0 0 0 = m 0 0 0 := by rw [fut_i 0 0 (by decide), w1]
  have c1 : (cpS (tkL (cpS m 0 1) 0 1 a2.toNat) 0 1) 0 1 0 = m 0 0 0 := by rw [fut_a 0 0 (by decide), w1]
  have c6 : (cpS (tkL (cpS m 0 1) 0 1 a2.toNat) 0 1) 22 0 6 = m 22 0 6 := by rw [fut_i 22 0 (by decide), w1]
  have h16 := hinC_lt hz
  have ga := BS_addL (c := a0) (x := a1) (t := (cpS (tkL (cpS m 0 1) 0 1 a2.toNat) 0 1) 0 0 0 + a2) gg.1 gg.2 (by rw [c6]; exact h0) h1 (by omega) (by omega)
  have gt : (addL (cpS (tkL (cpS m 0 1) 0 1 a2.toNat) 0 1) 1 a0 a1 ((cpS (tkL (cpS m 0 1) 0 1 a2.toNat) 0 1) 0 0 0 + a2)) 0 1 0 = m 0 0 0 := by rw [addL_k (by omega), c1]
  refine x_aload_n (pc := 117) dX7_isSafe_117 2 rfl ?_
  refine y_getR (pc := 118) dX7_isSafe_118 flX7_25 rfl rfl rfl (by decide) ?_
  refine y_getR (pc := 121) (b := 1) dX7_isSafe_121 flX7_93 rfl rfl rfl (by decide) ?_
  refine y_getR (pc := 124) dX7_isSafe_124 flX7_111 rfl rfl rfl (by decide) ?_
  refine x_iload_n (pc := 127) dX7_isSafe_127 3 rfl ?_
  refine x_iload_n (pc := 128) dX7_isSafe_128 4 rfl ?_
  refine x_aload_n (pc := 129) dX7_isSafe_129 2 rfl ?_
  refine y_getR (pc := 130) dX7_isSafe_130 flX7_15 rfl rfl rfl (by decide) ?_
  refine y_getR (pc := 133) (b := 0) dX7_isSafe_133 flX7_93 rfl rfl rfl (by decide) ?_
  refine y_getI (pc := 136) 0 dX7_isSafe_136 flX7_233 rfl rfl rfl (by decide) ?_
  refine x_iload_n (pc := 139) dX7_isSafe_139 5 rfl ?_
  refine x_iadd (pc := 140) dX7_isSafe_140 ?_
  refine x_callV (pc := 141) _ dX7_isSafe_141 (ct_addL (s := 1) (by decide) a0 a1 ((cpS (tkL (cpS m 0 1) 0 1 a2.toNat) 0 1) 0 0 0 + a2) (by have := gg.2.2.2.2.2.1.1; omega)) lkX7_263 rfl rfl rfl rfl (mem_dom0 (by decide) (by decide)) (by decide) (Nat.le_of_ble_eq_true rfl) rfl ?_
  refine x_pop (pc := 144) dX7_isSafe_144 rfl ?_
  refine x_aload_n (pc := 145) dX7_isSafe_145 2 rfl ?_
  refine y_getR (pc := 146) dX7_isSafe_146 flX7_25 rfl rfl rfl (by decide) ?_
  refine x_iload_n (pc := 149) dX7_isSafe_149 5 rfl ?_
  refine x_callV (pc := 150) _ dX7_isSafe_150 (ct_passTicks (w := 1) (by decide) a2 (by omega) ga.1 ga.2 (by omega)) lkX7_290 rfl rfl rfl rfl (mem_dom0 (by decide) (by decide)) (by decide) (Nat.le_of_ble_eq_true rfl) rfl ?_
  refine x_nil (m' := tkL (addL (cpS (tkL (cpS m 0 1) 0 1 a2.toNat) 0 1) 1 a0 a1 ((cpS (tkL (cpS m 0 1) 0 1 a2.toNat) 0 1) 0 0 0 + a2)) 0 1 a2.toNat) rfl ?_
  have g2 := tkL_f (p := 0) (s := 1) a2.toNat (addL (cpS (tkL (cpS m 0 1) 0 1 a2.toNat) 0 1) 1 a0 a1 ((cpS (tkL (cpS m 0 1) 0 1 a2.toNat) 0 1) 0 0 0 + a2)) ga.1 ga.2 (by omega)
  have g2n := g2.2.2.2.2.1.1
  refine x_aload_n (pc := 153) dX7_isSafe_153 2 rfl ?_
  refine y_getR (pc := 154) dX7_isSafe_154 flX7_25 rfl rfl rfl (by decide) ?_
  refine y_getR (pc := 157) (b := 1) dX7_isSafe_157 flX7_93 rfl rfl rfl (by decide) ?_
  refine y_getR (pc := 160) dX7_isSafe_160 flX7_97 rfl rfl rfl (by decide) ?_
  refine x_iload (pc := 163) dX7_isSafe_163 1 rfl ?_
  refine x_iconst (pc := 165) dX7_isSafe_165 ?_
  refine x_callV (pc := 166) _ dX7_isSafe_166 (ct_numberOf (s := 1) (by decide) (m 28 0 a0) 2 (by unfold inI; omega) (by unfold inI; omega) g2n (fun l a b => by have z := (g2.2.2.2.2.1.2 l a b); have z1 := z.1; have z4 := z.2.2.2; have z8 := g2.1.2.2.1; unfold inI; omega)) lkX7_147 rfl rfl rfl rfl (mem_dom0 (by decide) (by decide)) (by decide) (Nat.le_of_ble_eq_true rfl) rfl ?_
  refine x_top (v' := .int (iI (nmM (tkL (addL (cpS (tkL (cpS m 0 1) 0 1 a2.toNat) 0 1) 1 a0 a1 ((cpS (tkL (cpS m 0 1) 0 1 a2.toNat) 0 1) 0 0 0 + a2)) 0 1 a2.toNat) (m 28 0 a0)))) rfl ?_
  have nb2 : 0 ≤ nmM (tkL (addL (cpS (tkL (cpS m 0 1) 0 1 a2.toNat) 0 1) 1 a0 a1 ((cpS (tkL (cpS m 0 1) 0 1 a2.toNat) 0 1) 0 0 0 + a2)) 0 1 a2.toNat) (m 28 0 a0) ∧ nmM (tkL (addL (cpS (tkL (cpS m 0 1) 0 1 a2.toNat) 0 1) 1 a0 a1 ((cpS (tkL (cpS m 0 1) 0 1 a2.toNat) 0 1) 0 0 0 + a2)) 0 1 a2.toNat) (m 28 0 a0) ≤ 16 := num_b g2n
  refine x_iload (pc := 169) dX7_isSafe_169 0 rfl ?_
  refine x_icmp_gt (pc := 171) 178 dX7_isSafe_171 (by decide) (by unfold inI; omega) (by unfold inI; omega) (fun c_171 => ?_) (fun c_171 => ?_)
  · refine x_iconst (pc := 178) dX7_isSafe_178 ?_
    exact y_z0ret (pc := 179) dX7_isSafe_179 rfl (by omega) rfl
  · refine x_iconst (pc := 174) dX7_isSafe_174 ?_
    refine x_goto (pc := 175) 179 dX7_isSafe_175 (by decide) ?_
    exact y_z1ret (pc := 179) dX7_isSafe_179 rfl (by omega) rfl
