theorem fut_a {m : Mem} (k : Nat) (j : Int) (h : k < 22) : cpS m 0 1 k 1 j = m k 0 j := by rw [cpS_at (inS_all h)]
theorem fut_i {m : Mem} (k i : Nat) (h : i ≠ 1) : cpS m 0 1 k i = m k i := cpS_i h
theorem fut_p {m : Mem} (k : Nat) (h : 22 ≤ k) : cpS m 0 1 k = m k := cpS_k (inS_not h)
def sumC (m : Mem) (k : Nat) (n : Int) : Int := sm (fun j => m k 0 j) n.toNat
theorem fut_t {m : Mem} {n : Nat} {k : Nat} {j : Int} (hk : k = 1 ∨ k = 2 ∨ 11 ≤ k ∧ k ≤ 13 ∨ 15 ≤ k ∧ k ≤ 16 ∨ k = 21) : tkL (cpS m 0 1) 0 1 n k 1 j = m k 0 j := by rw [tkL_k (by omega), fut_a k j (by omega)]
theorem fut_e {m : Mem} {n : Nat} {l : Int} {k : Nat} {j : Int} (hk : k = 1 ∨ k = 2 ∨ 11 ≤ k ∧ k ≤ 13 ∨ 15 ≤ k ∧ k ≤ 16 ∨ k = 21) : teM (cpS m 0 1) 0 1 l n k 1 j = m k 0 j := by rw [teM_k (by omega), fut_a k j (by omega)]
theorem fut_w {m : Mem} {n : Nat} {k : Nat} : tkL (cpS m 0 1) 0 1 n k 0 = m k 0 := by rw [tkL_i (by decide), fut_i k 0 (by decide)]
theorem lp_sumOf3 {G : GG} {m : Mem} (c : Int) (hc : 0 ≤ c ∧ c ≤ 8) (hb : ∀ j, 0 ≤ j → j < c → inI (m 3 0 j)) : ∀ (n : Nat) (i a : Int), i + n = c → 0 ≤ i → a = sm (fun j => m 3 0 j) i.toNat → X G MX7_sumOf (rmD 0) 5 [(0, rf G 3 0), (1, .int (iI c)), (2, .long (lI a)), (4, .int (iI i))] [] (hp (m)) 0 0 (.inl (some (.long (lI (sumC m 3 c))))) (hp (m)) := by
  intro n
  induction n with
  | zero =>
    intro i a hi h0 ha
    refine x_iload (pc := 5) dX7_sumOf_5 3 rfl ?_
    refine x_iload_n (pc := 7) dX7_sumOf_7 1 rfl ?_
    refine x_icmp_ge (pc := 8) 32 dX7_sumOf_8 (by decide) (by unfold inI; omega) (by unfold inI; omega) (fun c_8 => ?_) (fun c_8 => (by exfalso; omega))
    refine x_lload_n (pc := 32) dX7_sumOf_32 2 rfl ?_
    exact y_lret (pc := 33) dX7_sumOf_33 rfl (by rw [ha, show i = c by omega]; rfl) rfl
  | succ n ih =>
    intro i a hi h0 ha
    refine x_iload (pc := 5) dX7_sumOf_5 3 rfl ?_
    refine x_iload_n (pc := 7) dX7_sumOf_7 1 rfl ?_
    refine x_icmp_ge (pc := 8) 32 dX7_sumOf_8 (by decide) (by unfold inI; omega) (by unfold inI; omega) (fun c_8 => (by exfalso; omega)) (fun c_8 => ?_)
    refine x_iload (pc := 11) dX7_sumOf_11 3 rfl ?_
    refine x_aload_n (pc := 13) dX7_sumOf_13 0 rfl ?_
    refine y_alen (pc := 14) (nz := 8) dX7_sumOf_14 rfl (by decide) rfl rfl ?_
    refine x_icmp_ge (pc := 15) 32 dX7_sumOf_15 (by decide) (by unfold inI; omega) (by unfold inI; omega) (fun c_15 => (by exfalso; omega)) (fun c_15 => ?_)
    refine x_lload_n (pc := 18) dX7_sumOf_18 2 rfl ?_
    refine x_aload_n (pc := 19) dX7_sumOf_19 0 rfl ?_
    refine x_iload (pc := 20) dX7_sumOf_20 3 rfl ?_
    refine y_iald (pc := 22) dX7_sumOf_22 rfl (by decide) (by omega) ?_
    refine x_i2l (pc := 23) dX7_sumOf_23 (hb i h0 (by omega)) ?_
    refine x_ladd (pc := 24) dX7_sumOf_24 ?_
    refine x_lstore_n (pc := 25) (lv' := [(2, _), (0, _), (1, _), (4, _)]) dX7_sumOf_25 rfl (by decide) rfl ?_
    refine x_iinc (pc := 26) (lv' := [(4, _), (2, _), (0, _), (1, _)]) dX7_sumOf_26 3 rfl (by decide) rfl ?_
    refine x_goto (pc := 29) 5 dX7_sumOf_29 (by decide) ?_
    exact x_lv [2, 3, 1, 0] rfl (ih (i + 1) _ (by omega) (by omega) (by rw [sm_succ _ h0, ← ha]))
theorem ct_sumOf3 {G : GG} {m : Mem} (c : Int) (hc : 0 ≤ c ∧ c ≤ 8) (hb : ∀ j, 0 ≤ j → j < c → inI (m 3 0 j)) : Ct G MX7_sumOf (rmD 0) [rf G 3 0, .int (iI c)] (hp (m)) (.inl (some (.long (lI (sumC m 3 c))))) (hp (m)) := by
  refine x_entry (by decide +kernel) mwX7_sumOf rfl (Nat.le_of_ble_eq_true rfl) ?_
  show X G MX7_sumOf (rmD 0) 0 [(0, rf G 3 0), (1, .int (iI c))] [] (hp (m)) 0 0 (.inl (some (.long (lI (sumC m 3 c))))) (hp (m))
  refine x_lconst (pc := 0) (z := 0) dX7_sumOf_0 (by decide) ?_
  refine x_lstore_n (pc := 1) (lv' := [(2, _), (0, _), (1, _)]) dX7_sumOf_1 rfl (by decide) rfl ?_
  refine x_iconst (pc := 2) dX7_sumOf_2 ?_
  refine x_istore (pc := 3) (lv' := [(4, _), (2, _), (0, _), (1, _)]) dX7_sumOf_3 (by decide) rfl ?_
  exact x_lv [2, 3, 1, 0] rfl (lp_sumOf3 c hc hb c.toNat 0 0 (by omega) (by omega) rfl)
theorem lp_sumOf4 {G : GG} {m : Mem} (c : Int) (hc : 0 ≤ c ∧ c ≤ 8) (hb : ∀ j, 0 ≤ j → j < c → inI (m 4 0 j)) : ∀ (n : Nat) (i a : Int), i + n = c → 0 ≤ i → a = sm (fun j => m 4 0 j) i.toNat → X G MX7_sumOf (rmD 0) 5 [(0, rf G 4 0), (1, .int (iI c)), (2, .long (lI a)), (4, .int (iI i))] [] (hp (m)) 0 0 (.inl (some (.long (lI (sumC m 4 c))))) (hp (m)) := by
  intro n
  induction n with
  | zero =>
    intro i a hi h0 ha
    refine x_iload (pc := 5) dX7_sumOf_5 3 rfl ?_
    refine x_iload_n (pc := 7) dX7_sumOf_7 1 rfl ?_
    refine x_icmp_ge (pc := 8) 32 dX7_sumOf_8 (by decide) (by unfold inI; omega) (by unfold inI; omega) (fun c_8 => ?_) (fun c_8 => (by exfalso; omega))
    refine x_lload_n (pc := 32) dX7_sumOf_32 2 rfl ?_
    exact y_lret (pc := 33) dX7_sumOf_33 rfl (by rw [ha, show i = c by omega]; rfl) rfl
  | succ n ih =>
    intro i a hi h0 ha
    refine x_iload (pc := 5) dX7_sumOf_5 3 rfl ?_
    refine x_iload_n (pc := 7) dX7_sumOf_7 1 rfl ?_
    refine x_icmp_ge (pc := 8) 32 dX7_sumOf_8 (by decide) (by unfold inI; omega) (by unfold inI; omega) (fun c_8 => (by exfalso; omega)) (fun c_8 => ?_)
    refine x_iload (pc := 11) dX7_sumOf_11 3 rfl ?_
    refine x_aload_n (pc := 13) dX7_sumOf_13 0 rfl ?_
    refine y_alen (pc := 14) (nz := 8) dX7_sumOf_14 rfl (by decide) rfl rfl ?_
    refine x_icmp_ge (pc := 15) 32 dX7_sumOf_15 (by decide) (by unfold inI; omega) (by unfold inI; omega) (fun c_15 => (by exfalso; omega)) (fun c_15 => ?_)
    refine x_lload_n (pc := 18) dX7_sumOf_18 2 rfl ?_
    refine x_aload_n (pc := 19) dX7_sumOf_19 0 rfl ?_
    refine x_iload (pc := 20) dX7_sumOf_20 3 rfl ?_
    refine y_iald (pc := 22) dX7_sumOf_22 rfl (by decide) (by omega) ?_
    refine x_i2l (pc := 23) dX7_sumOf_23 (hb i h0 (by omega)) ?_
    refine x_ladd (pc := 24) dX7_sumOf_24 ?_
    refine x_lstore_n (pc := 25) (lv' := [(2, _), (0, _), (1, _), (4, _)]) dX7_sumOf_25 rfl (by decide) rfl ?_
    refine x_iinc (pc := 26) (lv' := [(4, _), (2, _), (0, _), (1, _)]) dX7_sumOf_26 3 rfl (by decide) rfl ?_
    refine x_goto (pc := 29) 5 dX7_sumOf_29 (by decide) ?_
    exact x_lv [2, 3, 1, 0] rfl (ih (i + 1) _ (by omega) (by omega) (by rw [sm_succ _ h0, ← ha]))
theorem ct_sumOf4 {G : GG} {m : Mem} (c : Int) (hc : 0 ≤ c ∧ c ≤ 8) (hb : ∀ j, 0 ≤ j → j < c → inI (m 4 0 j)) : Ct G MX7_sumOf (rmD 0) [rf G 4 0, .int (iI c)] (hp (m)) (.inl (some (.long (lI (sumC m 4 c))))) (hp (m)) := by
  refine x_entry (by decide +kernel) mwX7_sumOf rfl (Nat.le_of_ble_eq_true rfl) ?_
  show X G MX7_sumOf (rmD 0) 0 [(0, rf G 4 0), (1, .int (iI c))] [] (hp (m)) 0 0 (.inl (some (.long (lI (sumC m 4 c))))) (hp (m))
  refine x_lconst (pc := 0) (z := 0) dX7_sumOf_0 (by decide) ?_
  refine x_lstore_n (pc := 1) (lv' := [(2, _), (0, _), (1, _)]) dX7_sumOf_1 rfl (by decide) rfl ?_
  refine x_iconst (pc := 2) dX7_sumOf_2 ?_
  refine x_istore (pc := 3) (lv' := [(4, _), (2, _), (0, _), (1, _)]) dX7_sumOf_3 (by decide) rfl ?_
  exact x_lv [2, 3, 1, 0] rfl (lp_sumOf4 c hc hb c.toNat 0 0 (by omega) (by omega) rfl)
theorem lp_sumOf9 {G : GG} {m : Mem} (c : Int) (hc : 0 ≤ c ∧ c ≤ 12) (hb : ∀ j, 0 ≤ j → j < c → inI (m 9 0 j)) : ∀ (n : Nat) (i a : Int), i + n = c → 0 ≤ i → a = sm (fun j => m 9 0 j) i.toNat → X G MX7_sumOf (rmD 0) 5 [(0, rf G 9 0), (1, .int (iI c)), (2, .long (lI a)), (4, .int (iI i))] [] (hp (m)) 0 0 (.inl (some (.long (lI (sumC m 9 c))))) (hp (m)) := by
  intro n
  induction n with
  | zero =>
    intro i a hi h0 ha
    refine x_iload (pc := 5) dX7_sumOf_5 3 rfl ?_
    refine x_iload_n (pc := 7) dX7_sumOf_7 1 rfl ?_
    refine x_icmp_ge (pc := 8) 32 dX7_sumOf_8 (by decide) (by unfold inI; omega) (by unfold inI; omega) (fun c_8 => ?_) (fun c_8 => (by exfalso; omega))
    refine x_lload_n (pc := 32) dX7_sumOf_32 2 rfl ?_
    exact y_lret (pc := 33) dX7_sumOf_33 rfl (by rw [ha, show i = c by omega]; rfl) rfl
  | succ n ih =>
    intro i a hi h0 ha
    refine x_iload (pc := 5) dX7_sumOf_5 3 rfl ?_
    refine x_iload_n (pc := 7) dX7_sumOf_7 1 rfl ?_
    refine x_icmp_ge (pc := 8) 32 dX7_sumOf_8 (by decide) (by unfold inI; omega) (by unfold inI; omega) (fun c_8 => (by exfalso; omega)) (fun c_8 => ?_)
    refine x_iload (pc := 11) dX7_sumOf_11 3 rfl ?_
    refine x_aload_n (pc := 13) dX7_sumOf_13 0 rfl ?_
    refine y_alen (pc := 14) (nz := 12) dX7_sumOf_14 rfl (by decide) rfl rfl ?_
    refine x_icmp_ge (pc := 15) 32 dX7_sumOf_15 (by decide) (by unfold inI; omega) (by unfold inI; omega) (fun c_15 => (by exfalso; omega)) (fun c_15 => ?_)
    refine x_lload_n (pc := 18) dX7_sumOf_18 2 rfl ?_
    refine x_aload_n (pc := 19) dX7_sumOf_19 0 rfl ?_
    refine x_iload (pc := 20) dX7_sumOf_20 3 rfl ?_
    refine y_iald (pc := 22) dX7_sumOf_22 rfl (by decide) (by omega) ?_
    refine x_i2l (pc := 23) dX7_sumOf_23 (hb i h0 (by omega)) ?_
    refine x_ladd (pc := 24) dX7_sumOf_24 ?_
    refine x_lstore_n (pc := 25) (lv' := [(2, _), (0, _), (1, _), (4, _)]) dX7_sumOf_25 rfl (by decide) rfl ?_
    refine x_iinc (pc := 26) (lv' := [(4, _), (2, _), (0, _), (1, _)]) dX7_sumOf_26 3 rfl (by decide) rfl ?_
    refine x_goto (pc := 29) 5 dX7_sumOf_29 (by decide) ?_
    exact x_lv [2, 3, 1, 0] rfl (ih (i + 1) _ (by omega) (by omega) (by rw [sm_succ _ h0, ← ha]))
theorem ct_sumOf9 {G : GG} {m : Mem} (c : Int) (hc : 0 ≤ c ∧ c ≤ 12) (hb : ∀ j, 0 ≤ j → j < c → inI (m 9 0 j)) : Ct G MX7_sumOf (rmD 0) [rf G 9 0, .int (iI c)] (hp (m)) (.inl (some (.long (lI (sumC m 9 c))))) (hp (m)) := by
  refine x_entry (by decide +kernel) mwX7_sumOf rfl (Nat.le_of_ble_eq_true rfl) ?_
  show X G MX7_sumOf (rmD 0) 0 [(0, rf G 9 0), (1, .int (iI c))] [] (hp (m)) 0 0 (.inl (some (.long (lI (sumC m 9 c))))) (hp (m))
  refine x_lconst (pc := 0) (z := 0) dX7_sumOf_0 (by decide) ?_
  refine x_lstore_n (pc := 1) (lv' := [(2, _), (0, _), (1, _)]) dX7_sumOf_1 rfl (by decide) rfl ?_
  refine x_iconst (pc := 2) dX7_sumOf_2 ?_
  refine x_istore (pc := 3) (lv' := [(4, _), (2, _), (0, _), (1, _)]) dX7_sumOf_3 (by decide) rfl ?_
  exact x_lv [2, 3, 1, 0] rfl (lp_sumOf9 c hc hb c.toNat 0 0 (by omega) (by omega) rfl)
def totC (m : Mem) (w : Int) : Int := if w = 0 then m 0 0 1 else if w = 1 then m 0 0 2 else if w = 2 then sumC m 9 (m 22 0 5) else if w = 3 then m 0 0 3 else if w = 4 then sumC m 3 (m 22 0 2) else sumC m 4 (m 22 0 2)
theorem P_total {G : GG} {m : Mem} (hP : BP m 0) (hB : BS m 0 0) (hT : m 0 0 0 ≤ 9999) (hh0 : 0 ≤ m 36 0 0 ∧ m 36 0 0 ≤ 8) (hh1 : 0 ≤ m 36 0 1 ∧ m 36 0 1 < 8) {a0 : Int} (ha0 : inI a0) (h0 : 0 ≤ a0 ∧ a0 ≤ 5) (hl : ∀ j, 0 ≤ j → j < m 22 0 5 → inI (m 9 0 j)) : Ct G MX7_total (rmD 9) [rf G 38 0, .int (iI a0)] (hp (m)) (.inl (some (.long (lI (totC m a0))))) (hp (m)) := by
  refine x_entry (by decide +kernel) mwX7_total rfl (Nat.le_of_ble_eq_true rfl) ?_
  show X G MX7_total (rmD 9) 0 [(0, rf G 38 0), (1, .int (iI a0))] [] (hp (m)) 0 0 (.inl (some (.long (lI (totC m a0))))) (hp (m))
  have n8 := hP.2.2.1
  have n4 := hP.2.2.2.1
  have n12 := hP.2.2.2.2.2.1
  have nc8 := hP.2.2.2.2.2.2.1
  have tb := hB.1
  have nt16 := hB.2.2.2.1.1
  have nl16 := hB.2.2.2.2.1.1
  refine x_iload_n (pc := 0) dX7_total_0 1 rfl ?_
  refine x_iconst (pc := 1) dX7_total_1 ?_
  refine x_iconst (pc := 2) dX7_total_2 ?_
  refine x_callS (pc := 3) _ dX7_total_3 (ct_ckR ha0 (by unfold inI; omega) (by unfold inI; omega) h0) lkX7_80 rfl (by decide) (Nat.le_of_ble_eq_true rfl) rfl ?_
  refine x_iload_n (pc := 6) dX7_total_6 1 rfl ?_
  by_cases w0 : a0 = 0
  · subst w0
    refine x_tabIn (pc := 7) 40 dX7_total_7 (by unfold inI; omega) (by decide) (by decide) rfl (by decide) ?_
    refine x_aload_n (pc := 40) dX7_total_40 0 rfl ?_
    refine y_getR (pc := 41) dX7_total_41 flX7_15 rfl rfl rfl (by decide) ?_
    refine y_getR (pc := 44) (b := 0) dX7_total_44 flX7_93 rfl rfl rfl (by decide) ?_
    refine y_getL (pc := 47) 1 dX7_total_47 flX7_235 rfl rfl rfl (by decide) ?_
    exact y_lret (pc := 50) dX7_total_50 rfl rfl rfl
  by_cases w1 : a0 = 1
  · subst w1
    refine x_tabIn (pc := 7) 51 dX7_total_7 (by unfold inI; omega) (by decide) (by decide) rfl (by decide) ?_
    refine x_aload_n (pc := 51) dX7_total_51 0 rfl ?_
    refine y_getR (pc := 52) dX7_total_52 flX7_15 rfl rfl rfl (by decide) ?_
    refine y_getR (pc := 55) (b := 0) dX7_total_55 flX7_93 rfl rfl rfl (by decide) ?_
    refine y_getL (pc := 58) 2 dX7_total_58 flX7_239 rfl rfl rfl (by decide) ?_
    exact y_lret (pc := 61) dX7_total_61 rfl rfl rfl
  by_cases w2 : a0 = 2
  · subst w2
    refine x_tabIn (pc := 7) 62 dX7_total_7 (by unfold inI; omega) (by decide) (by decide) rfl (by decide) ?_
    refine x_aload_n (pc := 62) dX7_total_62 0 rfl ?_
    refine y_getR (pc := 63) dX7_total_63 flX7_15 rfl rfl rfl (by decide) ?_
    refine y_getR (pc := 66) (b := 0) dX7_total_66 flX7_93 rfl rfl rfl (by decide) ?_
    refine y_getR (pc := 69) dX7_total_69 flX7_166 rfl rfl rfl (by decide) ?_
    refine x_aload_n (pc := 72) dX7_total_72 0 rfl ?_
    refine y_getR (pc := 73) dX7_total_73 flX7_15 rfl rfl rfl (by decide) ?_
    refine y_getR (pc := 76) (b := 0) dX7_total_76 flX7_21 rfl rfl rfl (by decide) ?_
    refine y_getI (pc := 79) 5 dX7_total_79 flX7_87 rfl rfl rfl (by decide) ?_
    refine x_callS (pc := 82) _ dX7_total_82 (ct_sumOf9 _ n12 hl) lkX7_242 rfl (by decide) (Nat.le_of_ble_eq_true rfl) rfl ?_
    exact y_lret (pc := 85) dX7_total_85 rfl rfl rfl
  by_cases w3 : a0 = 3
  · subst w3
    refine x_tabIn (pc := 7) 86 dX7_total_7 (by unfold inI; omega) (by decide) (by decide) rfl (by decide) ?_
    refine x_aload_n (pc := 86) dX7_total_86 0 rfl ?_
    refine y_getR (pc := 87) dX7_total_87 flX7_15 rfl rfl rfl (by decide) ?_
    refine y_getR (pc := 90) (b := 0) dX7_total_90 flX7_93 rfl rfl rfl (by decide) ?_
    refine y_getL (pc := 93) 3 dX7_total_93 flX7_246 rfl rfl rfl (by decide) ?_
    exact y_lret (pc := 96) dX7_total_96 rfl rfl rfl
  by_cases w4 : a0 = 4
  · subst w4
    refine x_tabIn (pc := 7) 97 dX7_total_7 (by unfold inI; omega) (by decide) (by decide) rfl (by decide) ?_
    refine x_aload_n (pc := 97) dX7_total_97 0 rfl ?_
    refine y_getR (pc := 98) dX7_total_98 flX7_15 rfl rfl rfl (by decide) ?_
    refine y_getR (pc := 101) (b := 0) dX7_total_101 flX7_93 rfl rfl rfl (by decide) ?_
    refine y_getR (pc := 104) dX7_total_104 flX7_135 rfl rfl rfl (by decide) ?_
    refine x_aload_n (pc := 107) dX7_total_107 0 rfl ?_
    refine y_getR (pc := 108) dX7_total_108 flX7_15 rfl rfl rfl (by decide) ?_
    refine y_getR (pc := 111) (b := 0) dX7_total_111 flX7_21 rfl rfl rfl (by decide) ?_
    refine y_getI (pc := 114) 2 dX7_total_114 flX7_74 rfl rfl rfl (by decide) ?_
    refine x_callS (pc := 117) _ dX7_total_117 (ct_sumOf3 _ n8 (fun j a b => by have z := BS_pf hP hB a b; have z5 := z.2.2.2.2; unfold inI; omega)) lkX7_242 rfl (by decide) (Nat.le_of_ble_eq_true rfl) rfl ?_
    exact y_lret (pc := 120) dX7_total_120 rfl rfl rfl
  refine x_tabOut (pc := 7) 121 dX7_total_7 (by unfold inI; omega) (by omega) (by decide) ?_
  refine x_aload_n (pc := 121) dX7_total_121 0 rfl ?_
  refine y_getR (pc := 122) dX7_total_122 flX7_15 rfl rfl rfl (by decide) ?_
  refine y_getR (pc := 125) (b := 0) dX7_total_125 flX7_93 rfl rfl rfl (by decide) ?_
  refine y_getR (pc := 128) dX7_total_128 flX7_138 rfl rfl rfl (by decide) ?_
  refine x_aload_n (pc := 131) dX7_total_131 0 rfl ?_
  refine y_getR (pc := 132) dX7_total_132 flX7_15 rfl rfl rfl (by decide) ?_
  refine y_getR (pc := 135) (b := 0) dX7_total_135 flX7_21 rfl rfl rfl (by decide) ?_
  refine y_getI (pc := 138) 2 dX7_total_138 flX7_74 rfl rfl rfl (by decide) ?_
  refine x_callS (pc := 141) _ dX7_total_141 (ct_sumOf4 _ n8 (fun j a b => by have z := BS_pf hP hB a b; have z5 := z.2.2.1; unfold inI; omega)) lkX7_242 rfl (by decide) (Nat.le_of_ble_eq_true rfl) rfl ?_
  exact y_lret (pc := 144) dX7_total_144 rfl (by unfold totC; rw [if_neg w0, if_neg w1, if_neg w2, if_neg w3, if_neg w4]) rfl
theorem Px_total_0 {G : GG} {m : Mem} (hP : BP m 0) (hB : BS m 0 0) (hT : m 0 0 0 ≤ 9999) (hh0 : 0 ≤ m 36 0 0 ∧ m 36 0 0 ≤ 8) (hh1 : 0 ≤ m 36 0 1 ∧ m 36 0 1 < 8) {a0 : Int} (ha0 : inI a0)  (h0 : ¬ (0 ≤ a0 ∧ a0 ≤ 5)) : Ct G MX7_total (rmE 1) [rf G 38 0, .int (iI a0)] (hp (m)) (.inr iaE) (hp (m)) := by
  refine x_entry (by decide +kernel) mwX7_total rfl (Nat.le_of_ble_eq_true rfl) ?_
  show X G MX7_total (rmE 1) 0 [(0, rf G 38 0), (1, .int (iI a0))] [] (hp (m)) 0 0 (.inr iaE) (hp (m))
  have n8 := hP.2.2.1
  have n4 := hP.2.2.2.1
  have n12 := hP.2.2.2.2.2.1
  have nc8 := hP.2.2.2.2.2.2.1
  have tb := hB.1
  have nt16 := hB.2.2.2.1.1
  have nl16 := hB.2.2.2.2.1.1
  refine x_iload_n (pc := 0) dX7_total_0 1 rfl ?_
  refine x_iconst (pc := 1) dX7_total_1 ?_
  refine x_iconst (pc := 2) dX7_total_2 ?_
  exact x_callSX (pc := 3) _ dX7_total_3 (ct_ckRx ha0 (by unfold inI; omega) (by unfold inI; omega) h0) lkX7_80 rfl rfl (by decide) (Nat.le_of_ble_eq_true rfl) rfl
theorem P_runToClosed {G : GG} {m : Mem} (hP : BP m 0) (hB : BS m 0 0) (hT : m 0 0 0 ≤ 9999) (hh0 : 0 ≤ m 36 0 0 ∧ m 36 0 0 ≤ 8) (hh1 : 0 ≤ m 36 0 1 ∧ m 36 0 1 < 8) {a0 a1 : Int} (ha0 : inI a0) (ha1 : inI a1) (h0 : 0 ≤ a0 ∧ a0 < m 2 0 0) (h1 : 1 ≤ a1 ∧ a1 ≤ 1000)  : Ct G MX7_runToClosed (rmD 9) [rf G 38 0, .int (iI a0), .int (iI a1)] (hp (m)) (.inl (some (.int (iI (if teM (pushC m) 0 0 a0 (min a1 (9999 - pushC m 0 0 0)).toNat 20 0 a0 ≤ 2 then -1 else teN (pushC m) 0 0 a0 (min a1 (9999 - pushC m 0 0 0)).toNat))))) (hp (teM (pushC m) 0 0 a0 (min a1 (9999 - pushC m 0 0 0)).toNat)) := by
  refine x_entry (by decide +kernel) mwX7_runToClosed rfl (Nat.le_of_ble_eq_true rfl) ?_
  show X G MX7_runToClosed (rmD 9) 0 [(0, rf G 38 0), (1, .int (iI a0)), (2, .int (iI a1))] [] (hp (m)) 0 0 (.inl (some (.int (iI (if teM (pushC m) 0 0 a0 (min a1 (9999 - pushC m 0 0 0)).toNat 20 0 a0 ≤ 2 then -1 else teN (pushC m) 0 0 a0 (min a1 (9999 - pushC m 0 0 0)).toNat))))) (hp (teM (pushC m) 0 0 a0 (min a1 (9999 - pushC m 0 0 0)).toNat))
  have n8 := hP.2.2.1
  have n4 := hP.2.2.2.1
  have n12 := hP.2.2.2.2.2.1
  have nc8 := hP.2.2.2.2.2.2.1
  have tb := hB.1
  have nt16 := hB.2.2.2.1.1
  have nl16 := hB.2.2.2.2.1.1
  refine x_iload_n (pc := 0) dX7_runToClosed_0 1 rfl ?_
  refine x_aload_n (pc := 1) dX7_runToClosed_1 0 rfl ?_
  refine y_getR (pc := 2) dX7_runToClosed_2 flX7_15 rfl rfl rfl (by decide) ?_
  refine y_getR (pc := 5) (b := 0) dX7_runToClosed_5 flX7_93 rfl rfl rfl (by decide) ?_
  refine y_getR (pc := 8) dX7_runToClosed_8 flX7_111 rfl rfl rfl (by decide) ?_
  refine y_getI (pc := 11) 0 dX7_runToClosed_11 flX7_115 rfl rfl rfl (by decide) ?_
  refine x_callS (pc := 14) _ dX7_runToClosed_14 (ct_ckI ha0 (by unfold inI; omega) h0) lkX7_123 rfl (by decide) (Nat.le_of_ble_eq_true rfl) rfl ?_
  refine x_iload_n (pc := 17) dX7_runToClosed_17 2 rfl ?_
  refine x_iconst (pc := 18) dX7_runToClosed_18 ?_
  refine x_sipush (pc := 19) (z := 1000) dX7_runToClosed_19 (by decide) ?_
  refine x_callS (pc := 22) _ dX7_runToClosed_22 (ct_ckR ha1 (by unfold inI; omega) (by unfold inI; omega) h1) lkX7_80 rfl (by decide) (Nat.le_of_ble_eq_true rfl) rfl ?_
  refine x_aload_n (pc := 25) dX7_runToClosed_25 0 rfl ?_
  refine y_getR (pc := 26) dX7_runToClosed_26 flX7_38 rfl rfl rfl (by decide) ?_
  refine x_aload_n (pc := 29) dX7_runToClosed_29 0 rfl ?_
  refine y_getR (pc := 30) dX7_runToClosed_30 flX7_15 rfl rfl rfl (by decide) ?_
  refine y_getR (pc := 33) (b := 0) dX7_runToClosed_33 flX7_93 rfl rfl rfl (by decide) ?_
  refine x_callV (pc := 36) _ dX7_runToClosed_36 (ct_push hh0 hh1) lkX7_259 rfl rfl rfl rfl (mem_dom0 (by decide) (by decide)) (by decide) (Nat.le_of_ble_eq_true rfl) rfl ?_
  have hf2 := push_f hP hB
  have hP2 := hf2.1
  have hB2 := hf2.2
  have k0 : pushC m 0 0 = m 0 0 := push_k (by decide)
  have k1 : pushC m 1 0 = m 1 0 := push_k (by decide)
  have k2 : pushC m 2 0 = m 2 0 := push_k (by decide)
  have k3 : pushC m 3 0 = m 3 0 := push_k (by decide)
  have k22 : pushC m 22 0 = m 22 0 := push_k (by decide)
  have j2 : pushC m 2 0 0 = m 2 0 0 := by rw [k2]
  have j1 : pushC m 1 0 0 = m 1 0 0 := by rw [k1]
  have j22 : pushC m 22 0 2 = m 22 0 2 := by rw [k22]
  have j226 : pushC m 22 0 6 = m 22 0 6 := by rw [k22]
  have j0 : pushC m 0 0 0 = m 0 0 0 := by rw [k0]
  refine x_aload_n (pc := 39) dX7_runToClosed_39 0 rfl ?_
  refine y_getR (pc := 40) dX7_runToClosed_40 flX7_15 rfl rfl rfl (by decide) ?_
  refine x_iload_n (pc := 43) dX7_runToClosed_43 1 rfl ?_
  refine x_iload_n (pc := 44) dX7_runToClosed_44 2 rfl ?_
  refine x_sipush (pc := 45) (z := 9999) dX7_runToClosed_45 (by decide) ?_
  refine x_aload_n (pc := 48) dX7_runToClosed_48 0 rfl ?_
  refine y_getR (pc := 49) dX7_runToClosed_49 flX7_15 rfl rfl rfl (by decide) ?_
  refine y_getR (pc := 52) (b := 0) dX7_runToClosed_52 flX7_93 rfl rfl rfl (by decide) ?_
  refine y_getI (pc := 55) 0 dX7_runToClosed_55 flX7_233 rfl rfl rfl (by decide) ?_
  refine x_isub (pc := 58) dX7_runToClosed_58 ?_
  refine x_min (pc := 59) dX7_runToClosed_59 lmX7_277 (by unfold inI; omega) (by unfold inI; omega) (by decide) (Nat.le_of_ble_eq_true rfl) (by decide) (by decide) ?_
  refine x_callV (pc := 62) _ dX7_runToClosed_62 (ct_passTicksToEnd (w := 0) (by decide) a0 (min a1 (9999 - pushC m 0 0 0)) (by omega) h0.1 (by omega) hP2 hB2 (by omega)) lkX7_293 rfl rfl rfl rfl (mem_dom0 (by decide) (by decide)) (by decide) (Nat.le_of_ble_eq_true rfl) rfl ?_
  refine x_nil (m' := teM (pushC m) 0 0 a0 (min a1 (9999 - pushC m 0 0 0)).toNat) rfl ?_
  refine x_top (v' := .int (iI (teN (pushC m) 0 0 a0 (min a1 (9999 - pushC m 0 0 0)).toNat))) rfl ?_
  have tf := teM_f (l := a0) (min a1 (9999 - pushC m 0 0 0)).toNat (pushC m) hP2 hB2 (by omega)
  have te2 : teM (pushC m) 0 0 a0 (min a1 (9999 - pushC m 0 0 0)).toNat 2 0 0 = pushC m 2 0 0 := by rw [teM_k (by omega)]
  have tl := tf.2.2.2.2.2.1.2 a0 h0.1 (by omega)
  have tl5 := tl.2.2.2.2.2.1
  refine x_istore_n (pc := 65) (lv' := [(3, _), (0, _), (1, _), (2, _)]) dX7_runToClosed_65 rfl (by decide) rfl ?_
  refine x_aload_n (pc := 66) dX7_runToClosed_66 1 rfl ?_
  refine y_getR (pc := 67) dX7_runToClosed_67 flX7_15 rfl rfl rfl (by decide) ?_
  refine y_getR (pc := 70) (b := 0) dX7_runToClosed_70 flX7_93 rfl rfl rfl (by decide) ?_
  refine y_getR (pc := 73) dX7_runToClosed_73 flX7_111 rfl rfl rfl (by decide) ?_
  refine x_iload_n (pc := 76) dX7_runToClosed_76 2 rfl ?_
  refine x_callV (pc := 77) _ dX7_runToClosed_77 (ct_isOpen (s := 0) (by decide) a0 (by omega) (by unfold inI; omega)) lkX7_267 rfl rfl rfl rfl (mem_dom0 (by decide) (by decide)) (by decide) (Nat.le_of_ble_eq_true rfl) rfl ?_
  refine x_ifb_eq (pc := 80) 87 dX7_runToClosed_80 (by decide) (fun c_80 => ?_) (fun c_80 => ?_)
  · refine x_iload_n (pc := 87) dX7_runToClosed_87 0 rfl ?_
    exact y_iret (pc := 88) dX7_runToClosed_88 rfl (by rw [if_neg c_80]) rfl
  · refine x_iconst (pc := 83) dX7_runToClosed_83 ?_
    refine x_goto (pc := 84) 88 dX7_runToClosed_84 (by decide) ?_
    exact y_iret (pc := 88) dX7_runToClosed_88 rfl (by rw [if_pos c_80]) rfl
theorem Px_runToClosed_0 {G : GG} {m : Mem} (hP : BP m 0) (hB : BS m 0 0) (hT : m 0 0 0 ≤ 9999) (hh0 : 0 ≤ m 36 0 0 ∧ m 36 0 0 ≤ 8) (hh1 : 0 ≤ m 36 0 1 ∧ m 36 0 1 < 8) {a0 a1 : Int} (ha0 : inI a0) (ha1 : inI a1)  (h0 : ¬ (0 ≤ a0 ∧ a0 < m 2 0 0)) : Ct G MX7_runToClosed (rmE 1) [rf G 38 0, .int (iI a0), .int (iI a1)] (hp (m)) (.inr ioE) (hp (m)) := by
  refine x_entry (by decide +kernel) mwX7_runToClosed rfl (Nat.le_of_ble_eq_true rfl) ?_
  show X G MX7_runToClosed (rmE 1) 0 [(0, rf G 38 0), (1, .int (iI a0)), (2, .int (iI a1))] [] (hp (m)) 0 0 (.inr ioE) (hp (m))
  have n8 := hP.2.2.1
  have n4 := hP.2.2.2.1
  have n12 := hP.2.2.2.2.2.1
  have nc8 := hP.2.2.2.2.2.2.1
  have tb := hB.1
  have nt16 := hB.2.2.2.1.1
  have nl16 := hB.2.2.2.2.1.1
  refine x_iload_n (pc := 0) dX7_runToClosed_0 1 rfl ?_
  refine x_aload_n (pc := 1) dX7_runToClosed_1 0 rfl ?_
  refine y_getR (pc := 2) dX7_runToClosed_2 flX7_15 rfl rfl rfl (by decide) ?_
  refine y_getR (pc := 5) (b := 0) dX7_runToClosed_5 flX7_93 rfl rfl rfl (by decide) ?_
  refine y_getR (pc := 8) dX7_runToClosed_8 flX7_111 rfl rfl rfl (by decide) ?_
  refine y_getI (pc := 11) 0 dX7_runToClosed_11 flX7_115 rfl rfl rfl (by decide) ?_
  exact x_callSX (pc := 14) _ dX7_runToClosed_14 (ct_ckIx ha0 (by unfold inI; omega) h0) lkX7_123 rfl rfl (by decide) (Nat.le_of_ble_eq_true rfl) rfl
theorem Px_runToClosed_1 {G : GG} {m : Mem} (hP : BP m 0) (hB : BS m 0 0) (hT : m 0 0 0 ≤ 9999) (hh0 : 0 ≤ m 36 0 0 ∧ m 36 0 0 ≤ 8) (hh1 : 0 ≤ m 36 0 1 ∧ m 36 0 1 < 8) {a0 a1 : Int} (ha0 : inI a0) (ha1 : inI a1) (h0 : 0 ≤ a0 ∧ a0 < m 2 0 0) (h1 : ¬ (1 ≤ a1 ∧ a1 ≤ 1000)) : Ct G MX7_runToClosed (rmE 1) [rf G 38 0, .int (iI a0), .int (iI a1)] (hp (m)) (.inr iaE) (hp (m)) := by
  refine x_entry (by decide +kernel) mwX7_runToClosed rfl (Nat.le_of_ble_eq_true rfl) ?_
  show X G MX7_runToClosed (rmE 1) 0 [(0, rf G 38 0), (1, .int (iI a0)), (2, .int (iI a1))] [] (hp (m)) 0 0 (.inr iaE) (hp (m))
  have n8 := hP.2.2.1
  have n4 := hP.2.2.2.1
  have n12 := hP.2.2.2.2.2.1
  have nc8 := hP.2.2.2.2.2.2.1
  have tb := hB.1
  have nt16 := hB.2.2.2.1.1
  have nl16 := hB.2.2.2.2.1.1
  refine x_iload_n (pc := 0) dX7_runToClosed_0 1 rfl ?_
  refine x_aload_n (pc := 1) dX7_runToClosed_1 0 rfl ?_
  refine y_getR (pc := 2) dX7_runToClosed_2 flX7_15 rfl rfl rfl (by decide) ?_
  refine y_getR (pc := 5) (b := 0) dX7_runToClosed_5 flX7_93 rfl rfl rfl (by decide) ?_
  refine y_getR (pc := 8) dX7_runToClosed_8 flX7_111 rfl rfl rfl (by decide) ?_
  refine y_getI (pc := 11) 0 dX7_runToClosed_11 flX7_115 rfl rfl rfl (by decide) ?_
  refine x_callS (pc := 14) _ dX7_runToClosed_14 (ct_ckI ha0 (by unfold inI; omega) h0) lkX7_123 rfl (by decide) (Nat.le_of_ble_eq_true rfl) rfl ?_
  refine x_iload_n (pc := 17) dX7_runToClosed_17 2 rfl ?_
  refine x_iconst (pc := 18) dX7_runToClosed_18 ?_
  refine x_sipush (pc := 19) (z := 1000) dX7_runToClosed_19 (by decide) ?_
  exact x_callSX (pc := 22) _ dX7_runToClosed_22 (ct_ckRx ha1 (by unfold inI; omega) (by unfold inI; omega) h1) lkX7_80 rfl rfl (by decide) (Nat.le_of_ble_eq_true rfl) rfl
theorem P_undo0 {G : GG} {m : Mem} (hP : BP m 0) (hB : BS m 0 0) (hT : m 0 0 0 ≤ 9999) (hh0 : 0 ≤ m 36 0 0 ∧ m 36 0 0 ≤ 8) (hh1 : 0 ≤ m 36 0 1 ∧ m 36 0 1 < 8)   (hz : m 36 0 0 = 0) : Ct G MX7_undo (rmD 9) [rf G 38 0] (hp (m)) (.inl (some (.int (iI (-1))))) (hp (m)) := by
  refine x_entry (by decide +kernel) mwX7_undo rfl (Nat.le_of_ble_eq_true rfl) ?_
  show X G MX7_undo (rmD 9) 0 [(0, rf G 38 0)] [] (hp (m)) 0 0 (.inl (some (.int (iI (-1))))) (hp (m))
  have n8 := hP.2.2.1
  have n4 := hP.2.2.2.1
  have n12 := hP.2.2.2.2.2.1
  have nc8 := hP.2.2.2.2.2.2.1
  have tb := hB.1
  have nt16 := hB.2.2.2.1.1
  have nl16 := hB.2.2.2.2.1.1
  refine x_aload_n (pc := 0) dX7_undo_0 0 rfl ?_
  refine y_getR (pc := 1) dX7_undo_1 flX7_38 rfl rfl rfl (by decide) ?_
  refine y_getI (pc := 4) 0 dX7_undo_4 flX7_122 rfl rfl rfl (by decide) ?_
  refine x_if_ne (pc := 7) 12 dX7_undo_7 (by decide) (by unfold inI; omega) (fun c_7 => absurd c_7 (fun z => z hz)) (fun c_7 => ?_)
  refine x_iconst (pc := 10) dX7_undo_10 ?_
  exact y_iret (pc := 11) dX7_undo_11 rfl rfl rfl
theorem P_undo1 {G : GG} {m : Mem} (hP : BP m 0) (hB : BS m 0 0) (hT : m 0 0 0 ≤ 9999) (hh0 : 0 ≤ m 36 0 0 ∧ m 36 0 0 ≤ 8) (hh1 : 0 ≤ m 36 0 1 ∧ m 36 0 1 < 8)   (hz : m 36 0 0 ≠ 0) : Ct G MX7_undo (rmD 9) [rf G 38 0] (hp (m)) (.inl (some (.int (iI (m 36 0 0 - 1))))) (hp (popC m)) := by
  refine x_entry (by decide +kernel) mwX7_undo rfl (Nat.le_of_ble_eq_true rfl) ?_
  show X G MX7_undo (rmD 9) 0 [(0, rf G 38 0)] [] (hp (m)) 0 0 (.inl (some (.int (iI (m 36 0 0 - 1))))) (hp (popC m))
  have n8 := hP.2.2.1
  have n4 := hP.2.2.2.1
  have n12 := hP.2.2.2.2.2.1
  have nc8 := hP.2.2.2.2.2.2.1
  have tb := hB.1
  have nt16 := hB.2.2.2.1.1
  have nl16 := hB.2.2.2.2.1.1
  refine x_aload_n (pc := 0) dX7_undo_0 0 rfl ?_
  refine y_getR (pc := 1) dX7_undo_1 flX7_38 rfl rfl rfl (by decide) ?_
  refine y_getI (pc := 4) 0 dX7_undo_4 flX7_122 rfl rfl rfl (by decide) ?_
  refine x_if_ne (pc := 7) 12 dX7_undo_7 (by decide) (by unfold inI; omega) (fun c_7 => ?_) (fun c_7 => absurd c_7 hz)
  refine x_aload_n (pc := 12) dX7_undo_12 0 rfl ?_
  refine y_getR (pc := 13) dX7_undo_13 flX7_38 rfl rfl rfl (by decide) ?_
  refine x_aload_n (pc := 16) dX7_undo_16 0 rfl ?_
  refine y_getR (pc := 17) dX7_undo_17 flX7_15 rfl rfl rfl (by decide) ?_
  refine y_getR (pc := 20) (b := 0) dX7_undo_20 flX7_93 rfl rfl rfl (by decide) ?_
  refine x_callV (pc := 23) _ dX7_undo_23 (ct_popInto hh1) lkX7_317 rfl rfl rfl rfl (mem_dom0 (by decide) (by decide)) (by decide) (Nat.le_of_ble_eq_true rfl) rfl ?_
  refine x_aload_n (pc := 26) dX7_undo_26 0 rfl ?_
  refine y_getR (pc := 27) dX7_undo_27 flX7_38 rfl rfl rfl (by decide) ?_
  refine y_getI (pc := 30) 0 dX7_undo_30 flX7_122 rfl rfl rfl (by decide) ?_
  exact y_iret (pc := 33) dX7_undo_33 rfl (by unfold popC; rw [cpS_k (by decide)]; rfl) rfl
theorem P_loadStatement {G : GG} {m : Mem} (hP : BP m 0) (hB : BS m 0 0) (hT : m 0 0 0 ≤ 9999) (hh0 : 0 ≤ m 36 0 0 ∧ m 36 0 0 ≤ 8) (hh1 : 0 ≤ m 36 0 1 ∧ m 36 0 1 < 8)   (hi : inI (m 34 0 1)) : Ct G MX7_loadStatement (rmD 9) [rf G 38 0] (hp (m)) (.inl (some (.int (iI (if m 34 0 1 = 0 then -1 else m 34 0 3))))) (hp (m)) := by
  refine x_entry (by decide +kernel) mwX7_loadStatement rfl (Nat.le_of_ble_eq_true rfl) ?_
  show X G MX7_loadStatement (rmD 9) 0 [(0, rf G 38 0)] [] (hp (m)) 0 0 (.inl (some (.int (iI (if m 34 0 1 = 0 then -1 else m 34 0 3))))) (hp (m))
  have n8 := hP.2.2.1
  have n4 := hP.2.2.2.1
  have n12 := hP.2.2.2.2.2.1
  have nc8 := hP.2.2.2.2.2.2.1
  have tb := hB.1
  have nt16 := hB.2.2.2.1.1
  have nl16 := hB.2.2.2.2.1.1
  refine x_aload_n (pc := 0) dX7_loadStatement_0 0 rfl ?_
  refine y_getR (pc := 1) dX7_loadStatement_1 flX7_31 rfl rfl rfl (by decide) ?_
  refine y_getI (pc := 4) 1 dX7_loadStatement_4 flX7_57 rfl rfl rfl (by decide) ?_
  refine x_if_ne (pc := 7) 14 dX7_loadStatement_7 (by decide) hi (fun c_7 => ?_) (fun c_7 => ?_)
  · refine x_aload_n (pc := 14) dX7_loadStatement_14 0 rfl ?_
    refine y_getR (pc := 15) dX7_loadStatement_15 flX7_31 rfl rfl rfl (by decide) ?_
    refine y_getI (pc := 18) 3 dX7_loadStatement_18 flX7_77 rfl rfl rfl (by decide) ?_
    exact y_iret (pc := 21) dX7_loadStatement_21 rfl (by rw [if_neg c_7]) rfl
  · refine x_iconst (pc := 10) dX7_loadStatement_10 ?_
    refine x_goto (pc := 11) 21 dX7_loadStatement_11 (by decide) ?_
    exact y_iret (pc := 21) dX7_loadStatement_21 rfl (by rw [if_pos c_7]) rfl
