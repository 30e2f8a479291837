theorem fut_a {m : Mem} (k : Nat) (j : Int) (h : k < 22) : cpS m 0 1 k 1 j = m k 0 j := by rw [cpS_at (inS_all h)]
theorem fut_i {m : Mem} (k i : Nat) (h : i ≠ 1) : cpS m 0 1 k i = m k i := cpS_i h
theorem fut_p {m : Mem} (k : Nat) (h : 22 ≤ k) : cpS m 0 1 k = m k := cpS_k (inS_not h)
def sumC (m : Mem) (k : Nat) (n : Int) : Int := sm (fun j => m k 0 j) n.toNat
theorem fut_t {m : Mem} {n : Nat} {k : Nat} {j : Int} (hk : k = 1 ∨ k = 2 ∨ 11 ≤ k ∧ k ≤ 13 ∨ 15 ≤ k ∧ k ≤ 16 ∨ k = 21) : tkL (cpS m 0 1) 0 1 n k 1 j = m k 0 j := by rw [tkL_k (by omega), fut_a k j (by omega)]
theorem fut_e {m : Mem} {n : Nat} {l : Int} {k : Nat} {j : Int} (hk : k = 1 ∨ k = 2 ∨ 11 ≤ k ∧ k ≤ 13 ∨ 15 ≤ k ∧ k ≤ 16 ∨ k = 21) : teM (cpS m 0 1) 0 1 l n k 1 j = m k 0 j := by rw [teM_k (by omega), fut_a k j (by omega)]
theorem fut_w {m : Mem} {n : Nat} {k : Nat} : tkL (cpS m 0 1) 0 1 n k 0 = m k 0 := by rw [tkL_i (by decide), fut_i k 0 (by decide)]

theorem lp_sumOf3 {G : GG} {m : Mem} (c : Int) (hc : 0 ≤ c ∧ c ≤ 8) (hb : ∀ j, 0 ≤ j → j < c → inI (m 3 0 j)) : ∀ (n : Nat) (i a : Int), i + n = c → 0 ≤ i → a = sm (fun j => m 3 0 j) i.toNat → X G MX7_sumOf (rmD 0) 5 [(0, rf G 3 0), (1, .int (iI c)), (2, .long (lI a)), (4, .int (iI i))] [] (hp (m)) 0 0 (.inl (some (.long (lI (sumC m 3 c))))) (hp (m)) := by
  intro n
  induction n with
  | zero =>
    intro i a hi h0 ha
    refine x_iload (pc := 5) dX7_sumOf_5 3 rfl ?_
    refine x_iload_n (pc := 7) dX7_sumOf_7 1 rfl ?_
    refine x_icmp_ge (pc := 8) 32 dX7_sumOf_8 (by decide) (by unfold inI; omega) (by unfold inI; omega) (fun c_8 => ?_) (fun c_8 => (by exfalso; omega))
    refine x_lload_n (pc := 32) dX7_sumOf_32 2 rfl ?_
    exact y_lret (pc := 33) dX7_sumOf_33 rfl (by rw [ha, show i = c by omega]; rfl) rfl
  | succ n ih =>
    intro i a hi h0 ha
    refine x_iload (pc := 5) dX7_sumOf_5 3 rfl ?_
    refine x_iload_n (pc := 7) dX7_sumOf_7 1 rfl ?_
    refine x_icmp_ge (pc := 8) 32 dX7_sumOf_8 (by decide) (by unfold inI; omega) (by unfold inI; omega) (fun c_8 => (by exfalso; omega)) (fun c_8 => ?_)
    refine x_iload (pc := 11) dX7_sumOf_11 3 rfl ?_
    refine x_aload_n (pc := 13) dX7_sumOf_13 0 rfl ?_
    refine y_alen (pc := 14) (nz := 8) dX7_sumOf_14 rfl (by decide) rfl rfl ?_
    refine x_icmp_ge (pc := 15) 32 dX7_sumOf_15 (by decide) (by unfold inI; omega) (by unfold inI; omega) (fun c_15 => (by exfalso; omega)) (fun c_15 => ?_)
    refine x_lload_n (pc := 18) dX7_sumOf_18 2 rfl ?_
    refine x_aload_n (pc := 19) dX7_sumOf_19 0 rfl ?_
    refine x_iload (pc := 20) dX7_sumOf_20 3 rfl ?_
    refine y_iald (pc := 22) dX7_sumOf_22 rfl (by decide) (by omega) ?_
    refine x_i2l (pc := 23) dX7_sumOf_23 (hb i h0 (by omega)) ?_
    refine x_ladd (pc := 24) dX7_sumOf_24 ?_
    refine x_lstore_n (pc := 25) (lv' := [(2, _), (0, _), (1, _), (4, _)]) dX7_sumOf_25 rfl (by decide) rfl ?_
    refine x_iinc (pc := 26) (lv' := [(4, _), (2, _), (0, _), (1, _)]) dX7_sumOf_26 3 rfl (by decide) rfl ?_
    refine x_goto (pc := 29) 5 dX7_sumOf_29 (by decide) ?_
    exact x_lv [2, 3, 1, 0] rfl (ih (i + 1) _ (by omega) (by omega) (by rw [sm_succ _ h0, ← ha]))

theorem ct_sumOf3 {G : GG} {m : Mem} (c : Int) (hc : 0 ≤ c ∧ c ≤ 8) (hb : ∀ j, 0 ≤ j → j < c → inI (m 3 0 j)) : Ct G MX7_sumOf (rmD 0) [rf G 3 0, .int (iI c)] (hp (m)) (.inl (some (.long (lI (sumC m 3 c))))) (hp (m)) := by
  refine x_entry (by decide +kernel) mwX7_sumOf rfl (Nat.le_of_ble_eq_true rfl) ?_
  show X G MX7_sumOf (rmD 0) 0 [(0, rf G 3 0), (1, .int (iI c))] [] (hp (m)) 0 0 (.inl (some (.long (lI (sumC m 3 c))))) (hp (m))
  refine x_lconst (pc := 0) (z := 0) dX7_sumOf_0 (by decide) ?_
  refine x_lstore_n (pc := 1) (lv' := [(2, _), (0, _), (1, _)]) dX7_sumOf_1 rfl (by decide) rfl ?_
  refine x_iconst (pc := 2) dX7_sumOf_2 ?_
  refine x_istore (pc := 3) (lv' := [(4, _), (2, _), (0, _), (1, _)]) dX7_sumOf_3 (by decide) rfl ?_
  exact x_lv [2, 3, 1, 0] rfl (lp_sumOf3 c hc hb c.toNat 0 0 (by omega) (by omega) rfl)

theorem lp_sumOf4 {G : GG} {m : Mem} (c : Int) (hc : 0 ≤ c ∧ c ≤ 8) (hb : ∀ j, 0 ≤ j → j < c → inI (m 4 0 j)) : ∀ (n : Nat) (i a : Int), i + n = c → 0 ≤ i → a = sm (fun j => m 4 0 j) i.toNat → X G MX7_sumOf (rmD 0) 5 [(0, rf G 4 0), (1, .int (iI c)), (2, .long (lI a)), (4, .int (iI i))] [] (hp (m)) 0 0 (.inl (some (.long (lI (sumC m 4 c))))) (hp (m)) := by
  intro n
  induction n with
  | zero =>
    intro i a hi h0 ha
    refine x_iload (pc := 5) dX7_sumOf_5 3 rfl ?_
    refine x_iload_n (pc := 7) dX7_sumOf_7 1 rfl ?_
    refine x_icmp_ge (pc := 8) 32 dX7_sumOf_8 (by decide) (by unfold inI; omega) (by unfold inI; omega) (fun c_8 => ?_) (fun c_8 => (by exfalso; omega))
    refine x_lload_n (pc := 32) dX7_sumOf_32 2 rfl ?_
    exact y_lret (pc := 33) dX7_sumOf_33 rfl (by rw [ha, show i = c by omega]; rfl) rfl
  | succ n ih =>
    intro i a hi h0 ha
    refine x_iload (pc := 5) dX7_sumOf_5 3 rfl ?_
    refine x_iload_n (pc := 7) dX7_sumOf_7 1 rfl ?_
    refine x_icmp_ge (pc := 8) 32 dX7_sumOf_8 (by decide) (by unfold inI; omega) (by unfold inI; omega) (fun c_8 => (by exfalso; omega)) (fun c_8 => ?_)
    refine x_iload (pc := 11) dX7_sumOf_11 3 rfl ?_
    refine x_aload_n (pc := 13) dX7_sumOf_13 0 rfl ?_
    refine y_alen (pc := 14) (nz := 8) dX7_sumOf_14 rfl (by decide) rfl rfl ?_
    refine x_icmp_ge (pc := 15) 32 dX7_sumOf_15 (by decide) (by unfold inI; omega) (by unfold inI; omega) (fun c_15 => (by exfalso; omega)) (fun c_15 => ?_)
    refine x_lload_n (pc := 18) dX7_sumOf_18 2 rfl ?_
    refine x_aload_n (pc := 19) dX7_sumOf_19 0 rfl ?_
    refine x_iload (pc := 20) dX7_sumOf_20 3 rfl ?_
    refine y_iald (pc := 22) dX7_sumOf_22 rfl (by decide) (by omega) ?_
    refine x_i2l (pc := 23) dX7_sumOf_23 (hb i h0 (by omega)) ?_
    refine x_ladd (pc := 24) dX7_sumOf_24 ?_
    refine x_lstore_n (pc := 25) (lv' := [(2, _), (0, _), (1, _), (4, _)]) dX7_sumOf_25 rfl (by decide) rfl ?_
    refine x_iinc (pc := 26) (lv' := [(4, _), (2, _), (0, _), (1, _)]) dX7_sumOf_26 3 rfl (by decide) rfl ?_
    refine x_goto (pc := 29) 5 dX7_sumOf_29 (by decide) ?_
    exact x_lv [2, 3, 1, 0] rfl (ih (i + 1) _ (by omega) (by omega) (by rw [sm_succ _ h0, ← ha]))

theorem ct_sumOf4 {G : GG} {m : Mem} (c : Int) (hc : 0 ≤ c ∧ c ≤ 8) (hb : ∀ j, 0 ≤ j → j < c → inI (m 4 0 j)) : Ct G MX7_sumOf (rmD 0) [rf G 4 0, .int (iI c)] (hp (m)) (.inl (some (.long (lI (sumC m 4 c))))) (hp (m)) := by
  refine x_entry (by decide +kernel) mwX7_sumOf rfl (Nat.le_of_ble_eq_true rfl) ?_
  show X G MX7_sumOf (rmD 0) 0 [(0, rf G 4 0), (1, .int (iI c))] [] (hp (m)) 0 0 (.inl (some (.long (lI (sumC m 4 c))))) (hp (m))
  refine x_lconst (pc := 0) (z := 0) dX7_sumOf_0 (by decide) ?_
  refine x_lstore_n (pc := 1) (lv' := [(2, _), (0, _), (1, _)]) dX7_sumOf_1 rfl (by decide) rfl ?_
  refine x_iconst (pc := 2) dX7_sumOf_2 ?_
  refine x_istore (pc := 3) (lv' := [(4, _), (2, _), (0, _), (1, _)]) dX7_sumOf_3 (by decide) rfl ?_
  exact x_lv [2, 3, 1, 0] rfl (lp_sumOf4 c hc hb c.toNat 0 0 (by omega) (by omega) rfl)

theorem lp_sumOf9 {G : GG} {m : Mem} (c : Int) (hc : 0 ≤ c ∧ c ≤ 12) (hb : ∀ j, 0 ≤ j → j < c → inI (m 9 0 j)) : ∀ (n : Nat) (i a : Int), i + n = c → 0 ≤ i → a = sm (fun j => m 9 0 j) i.toNat → X G MX7_sumOf (rmD 0) 5 [(0, rf G 9 0), (1, .int (iI c)), (2, .long (lI a)), (4, .int (iI i))] [] (hp (m)) 0 0 (.inl (some (.long (lI (sumC m 9 c))))) (hp (m)) := by
  intro n
  induction n with
  | zero =>
    intro i a hi h0 ha
    refine x_iload (pc := 5) dX7_sumOf_5 3 rfl ?_
    refine x_iload_n (pc := 7) dX7_sumOf_7 1 rfl ?_
    refine x_icmp_ge (pc := 8) 32 dX7_sumOf_8 (by decide) (by unfold inI; omega) (by unfold inI; omega) (fun c_8 => ?_) (fun c_8 => (by exfalso; omega))
    refine x_lload_n (pc := 32) dX7_sumOf_32 2 rfl ?_
    exact y_lret (pc := 33) dX7_sumOf_33 rfl (by rw [ha, show i = c by omega]; rfl) rfl
  | succ n ih =>
    intro i a hi h0 ha
    refine x_iload (pc := 5) dX7_sumOf_5 3 rfl ?_
    refine x_iload_n (pc := 7) dX7_sumOf_7 1 rfl ?_
    refine x_icmp_ge (pc := 8) 32 dX7_sumOf_8 (by decide) (by unfold inI; omega) (by unfold inI; omega) (fun c_8 => (by exfalso; omega)) (fun c_8 => ?_)
    refine x_iload (pc := 11) dX7_sumOf_11 3 rfl ?_
    refine x_aload_n (pc := 13) dX7_sumOf_13 0 rfl ?_
    refine y_alen (pc := 14) (nz := 12) dX7_sumOf_14 rfl (by decide) rfl rfl ?_
    refine x_icmp_ge (pc := 15) 32 dX7_sumOf_15 (by decide) (by unfold inI; omega) (by unfold inI; omega) (fun c_15 => (by exfalso; omega)) (fun c_15 => ?_)
    refine x_lload_n (pc := 18) dX7_sumOf_18 2 rfl ?_
    refine x_aload_n (pc := 19) dX7_sumOf_19 0 rfl ?_
    refine x_iload (pc := 20) dX7_sumOf_20 3 rfl ?_
    refine y_iald (pc := 22) dX7_sumOf_22 rfl (by decide) (by omega) ?_
    refine x_i2l (pc := 23) dX7_sumOf_23 (hb i h0 (by omega)) ?_
    refine x_ladd (pc := 24) dX7_sumOf_24 ?_
    refine x_lstore_n (pc := 25) (lv' := [(2, _), (0, _), (1, _), (4, _)]) dX7_sumOf_25 rfl (by decide) rfl ?_
    refine x_iinc (pc := 26) (lv' := [(4, _), (2, _), (0, _), (1, _)]) dX7_sumOf_26 3 rfl (by decide) rfl ?_
    refine x_goto (pc := 29) 5 dX7_sumOf_29 (by decide) ?_
    exact x_lv [2, 3, 1, 0] rfl (ih (i + 1) _ (by omega) (by omega) (by rw [sm_succ _ h0, ← ha]))

theorem ct_sumOf9 {G : GG} {m : Mem} (c : Int) (hc : 0 ≤ c ∧ c ≤ 12) (hb : ∀ j, 0 ≤ j → j < c → inI (m 9 0 j)) : Ct G MX7_sumOf (rmD 0) [rf G 9 0, .int (iI c)] (hp (m)) (.inl (some (.long (lI (sumC m 9 c))))) (hp (m)) := by
  refine x_entry (by decide +kernel) mwX7_sumOf rfl (Nat.le_of_ble_eq_true rfl) ?_
  show X G MX7_sumOf (rmD 0) 0 [(0, rf G 9 0), (1, .int (iI c))] [] (hp (m)) 0 0 (.inl (some (.long (lI (sumC m 9 c))))) (hp (m))
  refine x_lconst (pc := 0) (z := 0) dX7_sumOf_0 (by decide) ?_
  refine x_lstore_n (pc := 1) (lv' := [(2, _), (0, _), (1, _)]) dX7_sumOf_1 rfl (by decide) rfl ?_
  refine x_iconst (pc := 2) dX7_sumOf_2 ?_
  refine x_istore (pc := 3) (lv' := [(4, _), (2, _), (0, _), (1, _)]) dX7_sumOf_3 (by decide) rfl ?_
  exact x_lv [2, 3, 1, 0] rfl (lp_sumOf9 c hc hb c.toNat 0 0 (by omega) (by omega) rfl)

def totC (m : Mem) (w : Int) : Int := if w = 0 then m 0 0 1 else if w = 1 then m 0 0 2 else if w = 2 then sumC m 9 (m 22 0 5) else if w = 3 then m 0 0 3 else if w = 4 then sumC m 3 (m 22 0 2) else sumC m 4 (m 22 0 2)
theorem P_total {G : GG} {m : Mem} (hP : BP m 0) (hB : BS m 0 0) (hT : m 0 0 0 ≤ 9999) (hh0 : 0 ≤ m 36 0 0 ∧ m 36 0 0 ≤ 8) (hh1 : 0 ≤ m 36 0 1 ∧ m 36 0 1 < 8) {a0 : Int} (ha0 : inI a0) (h0 : 0 ≤ a0 ∧ a0 ≤ 5) (hl : ∀ j, 0 ≤ j → j < m 22 0 5 → inI (m 9 0 j)) : Ct G MX7_total (rmD 9) [rf G 38 0, .int (iI a0)] (hp (m)) (.inl (some (.long (lI (totC m a0))))) (hp (m)) := by
  refine x_entry (by decide +kernel) mwX7_total rfl (Nat.le_of_ble_eq_true rfl) ?_
  show X G MX7_total (rmD 9) 0 [(0, rf G 38 0), (1, .int (iI a0))] [] (hp (m)) 0 0 (.inl (some (.long (lI (totC m a0))))) (hp (m))
  have n8 := hP.2.2.1
  have n4 := hP.2.2.2.1
  have n12 := hP.2.2.2.2.2.1
  have nc8 := hP.2.2.2.2.2.2.1
  have tb := hB.1
  have nt16 := hB.2.2.2.1.1
  have nl16 := hB.2.2.2.2.1.1
  refine x_iload_n (pc := 0) dX7_total_0 1 rfl ?_
  refine x_iconst (pc := 1) dX7_total_1 ?_
  refine x_iconst (pc := 2) dX7_total_2 ?_
  refine x_callS (pc := 3) _ dX7_total_3 (ct_ckR ha0 (by unfold inI; omega) (by unfold inI; omega) h0) lkX7_80 rfl (by decide) (Nat.le_of_ble_eq_true rfl) rfl ?_
  refine x_iload_n (pc := 6) dX7_total_6 1 rfl ?_
  by_cases w0 : a0 = 0
  · subst w0
    refine x_tabIn (pc := 7) 40 dX7_total_7 (by unfold inI; omega) (by decide) (by decide) rfl (by decide) ?_
    refine x_aload_n (pc := 40) dX7_total_40 0 rfl ?_
    refine y_getR (pc := 41) dX7_total_41 flX7_15 rfl rfl rfl (by decide) ?_
    refine y_getR (pc := 44) (b := 0) dX7_total_44 flX7_93 rfl rfl rfl (by decide) ?_
    refine y_getL (pc := 47) 1 dX7_total_47 flX7_235 rfl rfl rfl (by decide) ?_
    exact y_lret (pc := 50) dX7_total_50 rfl rfl rfl
  by_cases w1 : a0 = 1
  · subst w1
    refine x_tabIn (pc := 7) 51 dX7_total_7 (by unfold inI; omega) (by decide) (by decide) rfl (by decide) ?_
    refine x_aload_n (pc := 51) dX7_total_51 0 rfl ?_
    refine y_getR (pc := 52) dX7_total_52 flX7_15 rfl rfl rfl (by decide) ?_
    refine y_getR (pc := 55) (b := 0) dX7_total_55 flX7_93 rfl rfl rfl (by decide) ?_
    refine y_getL (pc := 58) 2 dX7_total_58 flX7_239 rfl rfl rfl (by decide) ?_
    exact y_lret (pc := 61) dX7_total_61 rfl rfl rfl
  by_cases w2 : a0 = 2
  · subst w2
    refine x_tabIn (pc := 7) 62 dX7_total_7 (by unfold inI; omega) (by decide) (by decide) rfl (by decide) ?_
    refine x_aload_n (pc := 62) dX7_total_62 0 rfl ?_
    refine y_getR (pc := 63) dX7_total_63 flX7_15 rfl rfl rfl (by decide) ?_
    refine y_getR (pc := 66) (b := 0) dX7_total_66 flX7_93 rfl rfl rfl (by decide) ?_
    refine y_getR (pc := 69) dX7_total_69 flX7_166 rfl rfl rfl (by decide) ?_
    refine x_aload_n (pc := 72) dX7_total_72 0 rfl ?_
    refine y_getR (pc := 73) dX7_total_73 flX7_15 rfl rfl rfl (by decide) ?_
    refine y_getR (pc := 76) (b := 0) dX7_total_76 flX7_21 rfl rfl rfl (by decide) ?_
    refine y_getI (pc := 79) 5 dX7_total_79 flX7_87 rfl rfl rfl (by decide) ?_
    refine x_callS (pc := 82) _ dX7_total_82 (ct_sumOf9 _ n12 hl) lkX7_242 rfl (by decide) (Nat.le_of_ble_eq_true rfl) rfl ?_
    exact y_lret (pc := 85) dX7_total_85 rfl rfl rfl
  by_cases w3 : a0 = 3
  · subst w3
    refine x_tabIn (pc := 7) 86 dX7_total_7 (by unfold inI; omega) (by decide) (by decide) rfl (by decide) ?_
    refine x_aload_n (pc := 86) dX7_total_86 0 rfl ?_
    refine y_getR (pc := 87) dX7_total_87 flX7_15 rfl rfl rfl (by decide) ?_
    refine y_getR (pc := 90) (b := 0) dX7_total_90 flX7_93 rfl rfl rfl (by decide) ?_
    refine y_getL (pc := 93) 3 dX7_total_93 flX7_246 rfl rfl rfl (by decide) ?_
    exact y_lret (pc := 96) dX7_total_96 rfl rfl rfl
  by_cases w4 : a0 = 4
  · subst w4
    refine x_tabIn (pc := 7) 97 dX7_total_7 (by unfold inI; omega) (by decide) (by decide) rfl (by decide) ?_
    refine x_aload_n (pc := 97) dX7_total_97 0 rfl ?_
    refine y_getR (pc := 98) dX7_total_98 flX7_15 rfl rfl rfl (by decide) ?_
    refine y_getR (pc := 101) (b := 0) dX7_total_101 flX7_93 rfl rfl rfl (by decide) ?_
    refine y_getR (pc := 104) dX7_total_104 flX7_135 rfl rfl rfl (by decide) ?_
    refine x_aload_n (pc := 107) dX7_total_107 0 rfl ?_
    refine y_getR (pc := 108) dX7_total_108 flX7_15 rfl rfl rfl (by decide) ?_
    refine y_getR (pc := 111) (b := 0) dX7_total_111 flX7_21 rfl rfl rfl (by decide) ?_
    refine y_getI (pc := 114) 2 dX7_total_114 flX7_74 rfl rfl rfl (by decide) ?_
    refine x_callS (pc := 117) _ dX7_total_117 (ct_sumOf3 _ n8 (fun j a b => by have z := BS_pf hP hB a b; have z5 := z.2.2.2.2; unfold inI; omega)) lkX7_242 rfl (by decide) (Nat.le_of_ble_eq_true rfl) rfl ?_
    exact y_lret (pc := 120) dX7_total_120 rfl rfl rfl
  refine x_tabOut (pc := 7) 121 dX7_total_7 (by unfold inI; omega) (by omega) (by decide) ?_
  refine x_aload_n (pc := 121) dX7_total_121 0 rfl ?_
  refine y_getR (pc := 122) dX7_total_122 flX7_15 rfl rfl rfl (by decide) ?_
  refine y_getR (pc := 125) (b := 0) dX7_total_125 flX7_93 rfl rfl rfl (by decide) ?_
  refine y_getR (pc := 128) dX7_total_128 flX7_138 rfl rfl rfl (by decide) ?_
  refine x_aload_n (pc := 131) dX7_total_131 0 rfl ?_
  refine y_getR (pc := 132) dX7_total_132 flX7_15 rfl rfl rfl (by decide) ?_
  refine y_getR (pc := 135) (b := 0) dX7_total_135 flX7_21 rfl rfl rfl (by decide) ?_
  refine y_getI (pc := 138) 2 dX7_total_138 flX7_74 rfl rfl rfl (by decide) ?_
  refine x_callS (pc := 141) _ dX7_total_141 (ct_sumOf4 _ n8 (fun j a b => by have z := BS_pf hP hB a b; have z5 := z.2.2.1; unfold inI; omega)) lkX7_242 rfl (by decide) (Nat.le_of_ble_eq_true rfl) rfl ?_
  exact y_lret (pc := 144) dX7_total_144 rfl (by unfold totC; rw [if_neg w0, if_neg w1, if_neg w2, if_neg w3, if_neg w4]) rfl

theorem Px_total_0 {G : GG} {m : Mem} (hP : BP m 0) (hB : BS m 0 0) (hT : m 0 0 0 ≤ 9999) (hh0 : 0 ≤ m 36 0 0 ∧ m 36 0 0 ≤ 8) (hh1 : 0 ≤ m 36 0 1 ∧ m 36 0 1 < 8) {a0 : Int} (ha0 : inI a0)  (h0 : ¬ (0 ≤ a0 ∧ a0 ≤ 5)) : Ct G MX7_total (rmE 1) [rf G 38 0, .int (iI a0)] (hp (m)) (.inr iaE) (hp (m)) := by
  refine x_entry (by decide +kernel) mwX7_total rfl (Nat.le_of_ble_eq_true rfl) ?_
  show X G MX7_total (rmE 1) 0 [(0, rf G 38 0), (1, .int (iI a0))] [] (hp (m)) 0 0 (.inr iaE) (hp (m))
  have n8 := hP.2.2.1
  have n4 := hP.2.2.2.1
  have n12 := hP.2.2.2.2.2.1
  have nc8 := hP.2.2.2.2.2.2.1
  have tb := hB.1
  have nt16 := hB.2.2.2.1.1
  have nl16 := hB.2.2.2.2.1.1
  refine x_iload_n (pc := 0) dX7_total_0 1 rfl ?_
  refine x_iconst (pc := 1) dX7_total_1 ?_
  refine x_iconst (pc := 2) dX7_total_2 ?_
  exact x_callSX (pc := 3) _ dX7_total_3 (ct_ckRx ha0 (by unfold inI; omega) (by unfold inI; omega) h0) lkX7_80 rfl rfl (by decide) (Nat.le_of_ble_eq_true rfl) rfl

theorem P_runToClosed {G : GG} {m : Mem} (hP : BP m 0) (hB : BS m 0 0) (hT : m 0 0 0 ≤ 9999) (hh0 : 0 ≤ m 36 0 0 ∧ m 36 0 0 ≤ 8) (hh1 : 0 ≤ m 36 0 1 ∧ m 36 0 1 < 8) {a0 a1 : Int} (ha0 : inI a0) (ha1 : inI a1) (h0 : 0 ≤ a0 ∧ a0 < m 2 0 0) (h1 : 1 ≤ a1 ∧ a1 ≤ 1000)  : Ct G MX7_runToClosed (rmD 9) [rf G 38 0, .int (iI a0), .int (iI a1)] (hp (m)) (.inl (some (.int (iI (if teM (pushC m) 0 0 a0 (min a1 (9999 - pushC m 0 0 0)).toNat 20 0 a0 ≤ 2 then -1 else teN (pushC m) 0 0 a0 (min a1 (9999 - pushC m 0 0 0)).toNat))))) (hp (teM (pushC m) 0 0 a0 (min a1 (9999 - pushC m 0 0 0)).toNat)) := by
  refine x_entry (by decide +kernel) mwX7_runToClosed rfl (Nat.le_of_ble_eq_true rfl) ?_
  show X G MX7_runToClosed (rmD 9) 0 [(0, rf G 38 0), (1, .int (iI a0)), (2, .int (iI a1))] [] (hp (m)) 0 0 (.inl (some (.int (iI (if teM (pushC m) 0 0 a0 (min a1 (9999 - pushC m 0 0 0)).toNat 20 0 a0 ≤ 2 then -1 else teN (pushC m) 0 0 a0 (min a1 (9999 - pushC m 0 0 0)).toNat))))) (hp (teM (pushC m) 0 0 a0 (min a1 (9999 - pushC m 0 0 0)).toNat))
  have n8 := hP.2.2.1
  have n4 := hP.2.2.2.1
  have n12 := hP.2.2.2.2.2.1
  have nc8 := hP.2.2.2.2.2.2.1
  have tb := hB.1
  have nt16 := hB.2.2.2.1.1
  have nl16 := hB.2.2.2.2.1.1
  refine x_iload_n (pc := 0) dX7_runToClosed_0 1 rfl ?_
  refine x_aload_n (pc := 1) dX7_runToClosed_1 0 rfl ?_
  refine y_getR (pc := 2) dX7_runToClosed_2 flX7_15 rfl rfl rfl (by decide) ?_
  refine y_getR (pc := 5) (b := 0) dX7_runToClosed_5 flX7_93 rfl rfl rfl (by decide) ?_
  refine y_getR (pc := 8) dX7_runToClosed_8 flX7_111 rfl rfl rfl (by decide) ?_
  refine y_getI (pc := 11) 0 dX7_runToClosed_11 flX7_115 rfl rfl rfl (by decide) ?_
  refine x_callS (pc := 14) _ dX7_runToClosed_14 (ct_ckI ha0 (by unfold inI; omega) h0) lkX7_123 rfl (by decide) (Nat.le_of_ble_eq_true rfl) rfl ?_
  refine x_iload_n (pc := 17) dX7_runToClosed_17 2 rfl ?_
  refine x_iconst (pc := 18) dX7_runToClosed_18 ?_
  refine x_sipush (pc := 19) (z := 1000) dX7_runToClosed_19 (by decide) ?_
  refine x_callS (pc := 22) _ dX7_runToClosed_22 (ct_ckR ha1 (by unfold inI; omega) (by unfold inI; omega) h1) lkX7_80 rfl (by decide) (Nat.le_of_ble_eq_true rfl) rfl ?_
  refine x_aload_n (pc := 25) dX7_runToClosed_25 0 rfl ?_
  refine y_getR (pc := 26) dX7_runToClosed_26 flX7_38 rfl rfl rfl (by decide) ?_
  refine x_aload_n (pc := 29) dX7_runToClosed_29 0 rfl ?_
  refine y_getR (pc := 30) dX7_runToClosed_30 flX7_15 rfl rfl rfl (by decide) ?_
  refine y_getR (pc := 33) (b := 0) dX7_runToClosed_33 flX7_93 rfl rfl rfl (by decide) ?_
  refine x_callV (pc := 36) _ dX7_runToClosed_36 (ct_push hh0 hh1) lkX7_259 rfl rfl rfl rfl (mem_dom0 (by decide) (by decide)) (by decide) (Nat.le_of_ble_eq_true rfl) rfl ?_
  have hf2 := push_f hP hB
  have hP2 := hf2.1
  have hB2 := hf2.2
  have k0 : pushC m 0 0 = m 0 0 := push_k (by decide)
  have k1 : pushC m 1 0 = m 1 0 := push_k (by decide)
  have k2 : pushC m 2 0 = m 2 0 := push_k (by decide)
  have k3 : pushC m 3 0 = m 3 0 := push_k (by decide)
  have k22 : pushC m 22 0 = m 22 0 := push_k (by decide)
  have j2 : pushC m 2 0 0 = m 2 0 0 := by rw [k2]
  have j1 : pushC m 1 0 0 = m 1 0 0 := by rw [k1]
  have j22 : pushC m 22 0 2 = m 22 0 2 := by rw [k22]
  have j226 : pushC m 22 0 6 = m 22 0 6 := by rw [k22]
  have j0 : pushC m 0 0 0 = m 0 0 0 := by rw [k0]
  refine x_aload_n (pc := 39) dX7_runToClosed_39 0 rfl ?_
  refine y_getR (pc := 40) dX7_runToClosed_40 flX7_15 rfl rfl rfl (by decide) ?_
  refine x_iload_n (pc := 43) dX7_runToClosed_43 1 rfl ?_
  refine x_iload_n (pc := 44) dX7_runToClosed_44 2 rfl ?_
  refine x_sipush (pc := 45) (z := 9999) dX7_runToClosed_45 (by decide) ?_
  refine x_aload_n (pc := 48) dX7_runToClosed_48 0 rfl ?_
  refine y_getR (pc := 49) dX7_runToClosed_49 flX7_15 rfl rfl rfl (by decide) ?_
  refine y_getR (pc := 52) (b := 0) dX7_runToClosed_52 flX7_93 rfl rfl rfl (by decide) ?_
  refine y_getI (pc := 55) 0 dX7_runToClosed_55 flX7_233 rfl rfl rfl (by decide) ?_
  refine x_isub (pc := 58) dX7_runToClosed_58 ?_
  refine x_min (pc := 59) dX7_runToClosed_59 lmX7_277 (by unfold inI; omega) (by unfold inI; omega) (by decide) (Nat.le_of_ble_eq_true rfl) (by decide) (by decide) ?_
  refine x_callV (pc := 62) _ dX7_runToClosed_62 (ct_passTicksToEnd (w := 0) (by decide) a0 (min a1 (9999 - pushC m 0 0 0)) (by omega) h0.1 (by omega) hP2 hB2 (by omega)) lkX7_293 rfl rfl rfl rfl (mem_dom0 (by decide) (by decide)) (by decide) (Nat.le_of_ble_eq_true rfl) rfl ?_
  refine x_nil (m' := teM (pushC m) 0 0 a0 (min a1 (9999 - pushC m 0 0 0)).toNat) rfl ?_
  refine x_top (v' := .int (iI (teN (pushC m) 0 0 a0 (min a1 (9999 - pushC m 0 0 0)).toNat))) rfl ?_
  have tf := teM_f (l := a0) (min a1 (9999 - pushC m 0 0 0)).toNat (pushC m) hP2 hB2 (by omega)
  have te2 : teM (pushC m) 0 0 a0 (min a1 (9999 - pushC m 0 0 0)).toNat 2 0 0 = pushC m 2 0 0 := by rw [teM_k (by omega)]
  have tl := tf.2.2.2.2.2.1.2 a0 h0.1 (by omega)
  have tl5 := tl.2.2.2.2.2.1
  refine x_istore_n (pc := 65) (lv' := [(3, _), (0, _), (1, _), (2, _)]) dX7_runToClosed_65 rfl (by decide) rfl ?_
  refine x_aload_n (pc := 66) dX7_runToClosed_66 1 rfl ?_
  refine y_getR (pc := 67) dX7_runToClosed_67 flX7_15 rfl rfl rfl (by decide) ?_
  refine y_getR (pc := 70) (b := 0) dX7_runToClosed_70 flX7_93 rfl rfl rfl (by decide) ?_
  refine y_getR (pc := 73) dX7_runToClosed_73 flX7_111 rfl rfl rfl (by decide) ?_
  refine x_iload_n (pc := 76) dX7_runToClosed_76 2 rfl ?_
  refine x_callV (pc := 77) _ dX7_runToClosed_77 (ct_isOpen (s := 0) (by decide) a0 (by omega) (by unfold inI; omega)) lkX7_267 rfl rfl rfl rfl (mem_dom0 (by decide) (by decide)) (by decide) (Nat.le_of_ble_eq_true rfl) rfl ?_
  refine x_ifb_eq (pc := 80) 87 dX7_runToClosed_80 (by decide) (fun c_80 => ?_) (fun c_80 => ?_)
  · refine x_iload_n (pc := 87) dX7_runToClosed_87 0 rfl ?_
    exact y_iret (pc := 88) dX7_runToClosed_88 rfl (by rw [if_neg c_80]) rfl
  · refine x_iconst (pc := 83) dX7_runToClosed_83 ?_
    refine x_goto (pc := 84) 88 dX7_runToClosed_84 (by decide) ?_
    exact y_iret (pc := 88) dX7_runToClosed_88 rfl (by rw [if_pos c_80]) rfl

theorem Px_runToClosed_0 {G : GG} {m : Mem} (hP : BP m 0) (hB : BS m 0 0) (hT : m 0 0 0 ≤ 9999) (hh0 : 0 ≤ m 36 0 0 ∧ m 36 0 0 ≤ 8) (hh1 : 0 ≤ m 36 0 1 ∧ m 36 0 1 < 8) {a0 a1 : Int} (ha0 : inI a0) (ha1 : inI a1)  (h0 : ¬ (0 ≤ a0 ∧ a0 < m 2 0 0)) : Ct G MX7_runToClosed (rmE 1) [rf G 38 0, .int (iI a0), .int (iI a1)] (hp (m)) (.inr ioE) (hp (m)) := by
  refine x_entry (by decide +kernel) mwX7_runToClosed rfl (Nat.le_of_ble_eq_true rfl) ?_
  show X G MX7_runToClosed (rmE 1) 0 [(0, rf G 38 0), (1, .int (iI a0)), (2, .int (iI a1))] [] (hp (m)) 0 0 (.inr ioE) (hp (m))
  have n8 := hP.2.2.1
  have n4 := hP.2.2.2.1
  have n12 := hP.2.2.2.2.2.1
  have nc8 := hP.2.2.2.2.2.2.1
  have tb := hB.1
  have nt16 := hB.2.2.2.1.1
  have nl16 := hB.2.2.2.2.1.1
  refine x_iload_n (pc := 0) dX7_runToClosed_0 1 rfl ?_
  refine x_aload_n (pc := 1) dX7_runToClosed_1 0 rfl ?_
  refine y_getR (pc := 2) dX7_runToClosed_2 flX7_15 rfl rfl rfl (by decide) ?_
  refine y_getR (pc := 5) (b := 0) dX7_runToClosed_5 flX7_93 rfl rfl rfl (by decide) ?_
  refine y_getR (pc := 8) dX7_runToClosed_8 flX7_111 rfl rfl rfl (by decide) ?_
  refine y_getI (pc := 11) 0 dX7_runToClosed_11 flX7_115 rfl rfl rfl (by decide) ?_
  exact x_callSX (pc := 14) _ dX7_runToClosed_14 (ct_ckIx ha0 (by unfold inI; omega) h0) lkX7_123 rfl rfl (by decide) (Nat.le_of_ble_eq_true rfl) rfl

theorem Px_runToClosed_1 {G : GG} {m : Mem} (hP : BP m 0) (hB : BS m 0 0) (hT : m 0 0 0 ≤ 9999) (hh0 : 0 ≤ m 36 0 0 ∧ m 36 0 0 ≤ 8) (hh1 : 0 ≤ m 36 0 1 ∧ m 36 0 1 < 8) {a0 a1 : Int} (ha0 : inI a0) (ha1 : inI a1) (h0 : 0 ≤ a0 ∧ a0 < m 2 0 0) (h1 : ¬ (1 ≤ a1 ∧ a1 ≤ 1000)) : Ct G MX7_runToClosed (rmE 1) [rf G 38 0, .int (iI a0), .int (iI a1)] (hp (m)) (.inr iaE) (hp (m)) := by
  refine x_entry (by decide +kernel) mwX7_runToClosed rfl (Nat.le_of_ble_eq_true rfl) ?_
  show X G MX7_runToClosed (rmE 1) 0 [(0, rf G 38 0), (1, .int (iI a0)), (2, .int (iI a1))] [] (hp (m)) 0 0 (.inr iaE) (hp (m))
  have n8 := hP.2.2.1
  have n4 := hP.2.2.2.1
  have n12 := hP.2.2.2.2.2.1
  have nc8 := hP.2.2.2.2.2.2.1
  have tb := hB.1
  have nt16 := hB.2.2.2.1.1
  have nl16 := hB.2.2.2.2.1.1
  refine x_iload_n (pc := 0) dX7_runToClosed_0 1 rfl ?_
  refine x_aload_n (pc := 1) dX7_runToClosed_1 0 rfl ?_
  refine y_getR (pc := 2) dX7_runToClosed_2 flX7_15 rfl rfl rfl (by decide) ?_
  refine y_getR (pc := 5) (b := 0) dX7_runToClosed_5 flX7_93 rfl rfl rfl (by decide) ?_
  refine y_getR (pc := 8) dX7_runToClosed_8 flX7_111 rfl rfl rfl (by decide) ?_
  refine y_getI (pc := 11) 0 dX7_runToClosed_11 flX7_115 rfl rfl rfl (by decide) ?_
  refine x_callS (pc := 14) _ dX7_runToClosed_14 (ct_ckI ha0 (by unfold inI; omega) h0) lkX7_123 rfl (by decide) (Nat.le_of_ble_eq_true rfl) rfl ?_
  refine x_iload_n (pc := 17) dX7_runToClosed_17 2 rfl ?_
  refine x_iconst (pc := 18) dX7_runToClosed_18 ?_
  refine x_sipush (pc := 19) (z := 1000) dX7_runToClosed_19 (by decide) ?_
  exact x_callSX (pc := 22) _ dX7_runToClosed_22 (ct_ckRx ha1 (by unfold inI; omega) (by unfold inI; omega) h1) lkX7_80 rfl rfl (by decide) (Nat.le_of_ble_eq_true rfl) rfl

theorem P_chargeIn {G : GG} {m : Mem} (hP : BP m 0) (hB : BS m 0 0) (hT : m 0 0 0 ≤ 9999) (hh0 : 0 ≤ m 36 0 0 ∧ m 36 0 0 ≤ 8) (hh1 : 0 ≤ m 36 0 1 ∧ m 36 0 1 < 8) {a0 a1 : Int} (ha0 : inI a0) (ha1 : inI a1) (h0 : 0 ≤ a0 ∧ a0 < m 22 0 2) (h1 : 1 ≤ a1 ∧ a1 ≤ 500)  : Ct G MX7_chargeIn (rmD 9) [rf G 38 0, .int (iI a0), .int (iI a1)] (hp (m)) (.inl (some (.int (iI (tkL (cpS m 0 1) 0 1 a1.toNat 3 1 a0))))) (hp (tkL (cpS m 0 1) 0 1 a1.toNat)) := by
  refine x_entry (by decide +kernel) mwX7_chargeIn rfl (Nat.le_of_ble_eq_true rfl) ?_
  show X G MX7_chargeIn (rmD 9) 0 [(0, rf G 38 0), (1, .int (iI a0)), (2, .int (iI a1))] [] (hp (m)) 0 0 (.inl (some (.int (iI (tkL (cpS m 0 1) 0 1 a1.toNat 3 1 a0))))) (hp (tkL (cpS m 0 1) 0 1 a1.toNat))
  have n8 := hP.2.2.1
  have n4 := hP.2.2.2.1
  have n12 := hP.2.2.2.2.2.1
  have nc8 := hP.2.2.2.2.2.2.1
  have tb := hB.1
  have nt16 := hB.2.2.2.1.1
  have nl16 := hB.2.2.2.2.1.1
  refine x_iload_n (pc := 0) dX7_chargeIn_0 1 rfl ?_
  refine x_aload_n (pc := 1) dX7_chargeIn_1 0 rfl ?_
  refine y_getR (pc := 2) dX7_chargeIn_2 flX7_15 rfl rfl rfl (by decide) ?_
  refine y_getR (pc := 5) (b := 0) dX7_chargeIn_5 flX7_21 rfl rfl rfl (by decide) ?_
  refine y_getI (pc := 8) 2 dX7_chargeIn_8 flX7_74 rfl rfl rfl (by decide) ?_
  refine x_callS (pc := 11) _ dX7_chargeIn_11 (ct_ckI ha0 (by unfold inI; omega) h0) lkX7_123 rfl (by decide) (Nat.le_of_ble_eq_true rfl) rfl ?_
  refine x_iload_n (pc := 14) dX7_chargeIn_14 2 rfl ?_
  refine x_iconst (pc := 15) dX7_chargeIn_15 ?_
  refine x_sipush (pc := 16) (z := 500) dX7_chargeIn_16 (by decide) ?_
  refine x_callS (pc := 19) _ dX7_chargeIn_19 (ct_ckR ha1 (by unfold inI; omega) (by unfold inI; omega) h1) lkX7_80 rfl (by decide) (Nat.le_of_ble_eq_true rfl) rfl ?_
  refine x_aload_n (pc := 22) dX7_chargeIn_22 0 rfl ?_
  refine y_getR (pc := 23) dX7_chargeIn_23 flX7_25 rfl rfl rfl (by decide) ?_
  refine y_getR (pc := 26) (b := 1) dX7_chargeIn_26 flX7_93 rfl rfl rfl (by decide) ?_
  refine x_aload_n (pc := 29) dX7_chargeIn_29 0 rfl ?_
  refine y_getR (pc := 30) dX7_chargeIn_30 flX7_15 rfl rfl rfl (by decide) ?_
  refine y_getR (pc := 33) (b := 0) dX7_chargeIn_33 flX7_93 rfl rfl rfl (by decide) ?_
  refine x_callV (pc := 36) _ dX7_chargeIn_36 (ct_State_copyFrom (a := 0) (b := 1) (by decide) (by decide) (by decide)) lkX7_296 rfl rfl rfl rfl (mem_dom0 (by decide) (by decide)) (by decide) (Nat.le_of_ble_eq_true rfl) rfl ?_
  have ff := fut_f hP hB
  have ft := fut_a (m := m) 0 0 (by decide)
  have f2 := fut_a (m := m) 2 0 (by decide)
  have f1 := fut_a (m := m) 1 0 (by decide)
  refine x_aload_n (pc := 39) dX7_chargeIn_39 0 rfl ?_
  refine y_getR (pc := 40) dX7_chargeIn_40 flX7_25 rfl rfl rfl (by decide) ?_
  refine x_iload_n (pc := 43) dX7_chargeIn_43 2 rfl ?_
  refine x_callV (pc := 44) _ dX7_chargeIn_44 (ct_passTicks (w := 1) (by decide) a1 (by omega) ff.1 ff.2 (by omega)) lkX7_290 rfl rfl rfl rfl (mem_dom0 (by decide) (by decide)) (by decide) (Nat.le_of_ble_eq_true rfl) rfl ?_
  refine x_aload_n (pc := 47) dX7_chargeIn_47 0 rfl ?_
  refine y_getR (pc := 48) dX7_chargeIn_48 flX7_25 rfl rfl rfl (by decide) ?_
  refine y_getR (pc := 51) (b := 1) dX7_chargeIn_51 flX7_93 rfl rfl rfl (by decide) ?_
  refine y_getR (pc := 54) dX7_chargeIn_54 flX7_135 rfl rfl rfl (by decide) ?_
  refine x_iload_n (pc := 57) dX7_chargeIn_57 1 rfl ?_
  refine y_iald (pc := 58) dX7_chargeIn_58 rfl (by decide) (by omega) ?_
  exact y_iret (pc := 59) dX7_chargeIn_59 rfl rfl rfl

theorem Px_chargeIn_0 {G : GG} {m : Mem} (hP : BP m 0) (hB : BS m 0 0) (hT : m 0 0 0 ≤ 9999) (hh0 : 0 ≤ m 36 0 0 ∧ m 36 0 0 ≤ 8) (hh1 : 0 ≤ m 36 0 1 ∧ m 36 0 1 < 8) {a0 a1 : Int} (ha0 : inI a0) (ha1 : inI a1)  (h0 : ¬ (0 ≤ a0 ∧ a0 < m 22 0 2)) : Ct G MX7_chargeIn (rmE 1) [rf G 38 0, .int (iI a0), .int (iI a1)] (hp (m)) (.inr ioE) (hp (m)) := by
  refine x_entry (by decide +kernel) mwX7_chargeIn rfl (Nat.le_of_ble_eq_true rfl) ?_
  show X G MX7_chargeIn (rmE 1) 0 [(0, rf G 38 0), (1, .int (iI a0)), (2, .int (iI a1))] [] (hp (m)) 0 0 (.inr ioE) (hp (m))
  have n8 := hP.2.2.1
  have n4 := hP.2.2.2.1
  have n12 := hP.2.2.2.2.2.1
  have nc8 := hP.2.2.2.2.2.2.1
  have tb := hB.1
  have nt16 := hB.2.2.2.1.1
  have nl16 := hB.2.2.2.2.1.1
  refine x_iload_n (pc := 0) dX7_chargeIn_0 1 rfl ?_
  refine x_aload_n (pc := 1) dX7_chargeIn_1 0 rfl ?_
  refine y_getR (pc := 2) dX7_chargeIn_2 flX7_15 rfl rfl rfl (by decide) ?_
  refine y_getR (pc := 5) (b := 0) dX7_chargeIn_5 flX7_21 rfl rfl rfl (by decide) ?_
  refine y_getI (pc := 8) 2 dX7_chargeIn_8 flX7_74 rfl rfl rfl (by decide) ?_
  exact x_callSX (pc := 11) _ dX7_chargeIn_11 (ct_ckIx ha0 (by unfold inI; omega) h0) lkX7_123 rfl rfl (by decide) (Nat.le_of_ble_eq_true rfl) rfl

theorem Px_chargeIn_1 {G : GG} {m : Mem} (hP : BP m 0) (hB : BS m 0 0) (hT : m 0 0 0 ≤ 9999) (hh0 : 0 ≤ m 36 0 0 ∧ m 36 0 0 ≤ 8) (hh1 : 0 ≤ m 36 0 1 ∧ m 36 0 1 < 8) {a0 a1 : Int} (ha0 : inI a0) (ha1 : inI a1) (h0 : 0 ≤ a0 ∧ a0 < m 22 0 2) (h1 : ¬ (1 ≤ a1 ∧ a1 ≤ 500)) : Ct G MX7_chargeIn (rmE 1) [rf G 38 0, .int (iI a0), .int (iI a1)] (hp (m)) (.inr iaE) (hp (m)) := by
  refine x_entry (by decide +kernel) mwX7_chargeIn rfl (Nat.le_of_ble_eq_true rfl) ?_
  show X G MX7_chargeIn (rmE 1) 0 [(0, rf G 38 0), (1, .int (iI a0)), (2, .int (iI a1))] [] (hp (m)) 0 0 (.inr iaE) (hp (m))
  have n8 := hP.2.2.1
  have n4 := hP.2.2.2.1
  have n12 := hP.2.2.2.2.2.1
  have nc8 := hP.2.2.2.2.2.2.1
  have tb := hB.1
  have nt16 := hB.2.2.2.1.1
  have nl16 := hB.2.2.2.2.1.1
  refine x_iload_n (pc := 0) dX7_chargeIn_0 1 rfl ?_
  refine x_aload_n (pc := 1) dX7_chargeIn_1 0 rfl ?_
  refine y_getR (pc := 2) dX7_chargeIn_2 flX7_15 rfl rfl rfl (by decide) ?_
  refine y_getR (pc := 5) (b := 0) dX7_chargeIn_5 flX7_21 rfl rfl rfl (by decide) ?_
  refine y_getI (pc := 8) 2 dX7_chargeIn_8 flX7_74 rfl rfl rfl (by decide) ?_
  refine x_callS (pc := 11) _ dX7_chargeIn_11 (ct_ckI ha0 (by unfold inI; omega) h0) lkX7_123 rfl (by decide) (Nat.le_of_ble_eq_true rfl) rfl ?_
  refine x_iload_n (pc := 14) dX7_chargeIn_14 2 rfl ?_
  refine x_iconst (pc := 15) dX7_chargeIn_15 ?_
  refine x_sipush (pc := 16) (z := 500) dX7_chargeIn_16 (by decide) ?_
  exact x_callSX (pc := 19) _ dX7_chargeIn_19 (ct_ckRx ha1 (by unfold inI; omega) (by unfold inI; omega) h1) lkX7_80 rfl rfl (by decide) (Nat.le_of_ble_eq_true rfl) rfl

theorem P_wearIn {G : GG} {m : Mem} (hP : BP m 0) (hB : BS m 0 0) (hT : m 0 0 0 ≤ 9999) (hh0 : 0 ≤ m 36 0 0 ∧ m 36 0 0 ≤ 8) (hh1 : 0 ≤ m 36 0 1 ∧ m 36 0 1 < 8) {a0 a1 : Int} (ha0 : inI a0) (ha1 : inI a1) (h0 : 0 ≤ a0 ∧ a0 < m 22 0 2) (h1 : 1 ≤ a1 ∧ a1 ≤ 500)  : Ct G MX7_wearIn (rmD 9) [rf G 38 0, .int (iI a0), .int (iI a1)] (hp (m)) (.inl (some (.int (iI (tkL (cpS m 0 1) 0 1 a1.toNat 4 1 a0 - tkL (cpS m 0 1) 0 1 a1.toNat 4 0 a0))))) (hp (tkL (cpS m 0 1) 0 1 a1.toNat)) := by
  refine x_entry (by decide +kernel) mwX7_wearIn rfl (Nat.le_of_ble_eq_true rfl) ?_
  show X G MX7_wearIn (rmD 9) 0 [(0, rf G 38 0), (1, .int (iI a0)), (2, .int (iI a1))] [] (hp (m)) 0 0 (.inl (some (.int (iI (tkL (cpS m 0 1) 0 1 a1.toNat 4 1 a0 - tkL (cpS m 0 1) 0 1 a1.toNat 4 0 a0))))) (hp (tkL (cpS m 0 1) 0 1 a1.toNat))
  have n8 := hP.2.2.1
  have n4 := hP.2.2.2.1
  have n12 := hP.2.2.2.2.2.1
  have nc8 := hP.2.2.2.2.2.2.1
  have tb := hB.1
  have nt16 := hB.2.2.2.1.1
  have nl16 := hB.2.2.2.2.1.1
  refine x_iload_n (pc := 0) dX7_wearIn_0 1 rfl ?_
  refine x_aload_n (pc := 1) dX7_wearIn_1 0 rfl ?_
  refine y_getR (pc := 2) dX7_wearIn_2 flX7_15 rfl rfl rfl (by decide) ?_
  refine y_getR (pc := 5) (b := 0) dX7_wearIn_5 flX7_21 rfl rfl rfl (by decide) ?_
  refine y_getI (pc := 8) 2 dX7_wearIn_8 flX7_74 rfl rfl rfl (by decide) ?_
  refine x_callS (pc := 11) _ dX7_wearIn_11 (ct_ckI ha0 (by unfold inI; omega) h0) lkX7_123 rfl (by decide) (Nat.le_of_ble_eq_true rfl) rfl ?_
  refine x_iload_n (pc := 14) dX7_wearIn_14 2 rfl ?_
  refine x_iconst (pc := 15) dX7_wearIn_15 ?_
  refine x_sipush (pc := 16) (z := 500) dX7_wearIn_16 (by decide) ?_
  refine x_callS (pc := 19) _ dX7_wearIn_19 (ct_ckR ha1 (by unfold inI; omega) (by unfold inI; omega) h1) lkX7_80 rfl (by decide) (Nat.le_of_ble_eq_true rfl) rfl ?_
  refine x_aload_n (pc := 22) dX7_wearIn_22 0 rfl ?_
  refine y_getR (pc := 23) dX7_wearIn_23 flX7_25 rfl rfl rfl (by decide) ?_
  refine y_getR (pc := 26) (b := 1) dX7_wearIn_26 flX7_93 rfl rfl rfl (by decide) ?_
  refine x_aload_n (pc := 29) dX7_wearIn_29 0 rfl ?_
  refine y_getR (pc := 30) dX7_wearIn_30 flX7_15 rfl rfl rfl (by decide) ?_
  refine y_getR (pc := 33) (b := 0) dX7_wearIn_33 flX7_93 rfl rfl rfl (by decide) ?_
  refine x_callV (pc := 36) _ dX7_wearIn_36 (ct_State_copyFrom (a := 0) (b := 1) (by decide) (by decide) (by decide)) lkX7_296 rfl rfl rfl rfl (mem_dom0 (by decide) (by decide)) (by decide) (Nat.le_of_ble_eq_true rfl) rfl ?_
  have ff := fut_f hP hB
  have ft := fut_a (m := m) 0 0 (by decide)
  have f2 := fut_a (m := m) 2 0 (by decide)
  have f1 := fut_a (m := m) 1 0 (by decide)
  refine x_aload_n (pc := 39) dX7_wearIn_39 0 rfl ?_
  refine y_getR (pc := 40) dX7_wearIn_40 flX7_25 rfl rfl rfl (by decide) ?_
  refine x_iload_n (pc := 43) dX7_wearIn_43 2 rfl ?_
  refine x_callV (pc := 44) _ dX7_wearIn_44 (ct_passTicks (w := 1) (by decide) a1 (by omega) ff.1 ff.2 (by omega)) lkX7_290 rfl rfl rfl rfl (mem_dom0 (by decide) (by decide)) (by decide) (Nat.le_of_ble_eq_true rfl) rfl ?_
  refine x_aload_n (pc := 47) dX7_wearIn_47 0 rfl ?_
  refine y_getR (pc := 48) dX7_wearIn_48 flX7_25 rfl rfl rfl (by decide) ?_
  refine y_getR (pc := 51) (b := 1) dX7_wearIn_51 flX7_93 rfl rfl rfl (by decide) ?_
  refine y_getR (pc := 54) dX7_wearIn_54 flX7_138 rfl rfl rfl (by decide) ?_
  refine x_iload_n (pc := 57) dX7_wearIn_57 1 rfl ?_
  refine y_iald (pc := 58) dX7_wearIn_58 rfl (by decide) (by omega) ?_
  refine x_aload_n (pc := 59) dX7_wearIn_59 0 rfl ?_
  refine y_getR (pc := 60) dX7_wearIn_60 flX7_15 rfl rfl rfl (by decide) ?_
  refine y_getR (pc := 63) (b := 0) dX7_wearIn_63 flX7_93 rfl rfl rfl (by decide) ?_
  refine y_getR (pc := 66) dX7_wearIn_66 flX7_138 rfl rfl rfl (by decide) ?_
  refine x_iload_n (pc := 69) dX7_wearIn_69 1 rfl ?_
  refine y_iald (pc := 70) dX7_wearIn_70 rfl (by decide) (by omega) ?_
  refine x_isub (pc := 71) dX7_wearIn_71 ?_
  exact y_iret (pc := 72) dX7_wearIn_72 rfl rfl rfl

theorem Px_wearIn_0 {G : GG} {m : Mem} (hP : BP m 0) (hB : BS m 0 0) (hT : m 0 0 0 ≤ 9999) (hh0 : 0 ≤ m 36 0 0 ∧ m 36 0 0 ≤ 8) (hh1 : 0 ≤ m 36 0 1 ∧ m 36 0 1 < 8) {a0 a1 : Int} (ha0 : inI a0) (ha1 : inI a1)  (h0 : ¬ (0 ≤ a0 ∧ a0 < m 22 0 2)) : Ct G MX7_wearIn (rmE 1) [rf G 38 0, .int (iI a0), .int (iI a1)] (hp (m)) (.inr ioE) (hp (m)) := by
  refine x_entry (by decide +kernel) mwX7_wearIn rfl (Nat.le_of_ble_eq_true rfl) ?_
  show X G MX7_wearIn (rmE 1) 0 [(0, rf G 38 0), (1, .int (iI a0)), (2, .int (iI a1))] [] (hp (m)) 0 0 (.inr ioE) (hp (m))
  have n8 := hP.2.2.1
  have n4 := hP.2.2.2.1
  have n12 := hP.2.2.2.2.2.1
  have nc8 := hP.2.2.2.2.2.2.1
  have tb := hB.1
  have nt16 := hB.2.2.2.1.1
  have nl16 := hB.2.2.2.2.1.1
  refine x_iload_n (pc := 0) dX7_wearIn_0 1 rfl ?_
  refine x_aload_n (pc := 1) dX7_wearIn_1 0 rfl ?_
  refine y_getR (pc := 2) dX7_wearIn_2 flX7_15 rfl rfl rfl (by decide) ?_
  refine y_getR (pc := 5) (b := 0) dX7_wearIn_5 flX7_21 rfl rfl rfl (by decide) ?_
  refine y_getI (pc := 8) 2 dX7_wearIn_8 flX7_74 rfl rfl rfl (by decide) ?_
  exact x_callSX (pc := 11) _ dX7_wearIn_11 (ct_ckIx ha0 (by unfold inI; omega) h0) lkX7_123 rfl rfl (by decide) (Nat.le_of_ble_eq_true rfl) rfl

theorem Px_wearIn_1 {G : GG} {m : Mem} (hP : BP m 0) (hB : BS m 0 0) (hT : m 0 0 0 ≤ 9999) (hh0 : 0 ≤ m 36 0 0 ∧ m 36 0 0 ≤ 8) (hh1 : 0 ≤ m 36 0 1 ∧ m 36 0 1 < 8) {a0 a1 : Int} (ha0 : inI a0) (ha1 : inI a1) (h0 : 0 ≤ a0 ∧ a0 < m 22 0 2) (h1 : ¬ (1 ≤ a1 ∧ a1 ≤ 500)) : Ct G MX7_wearIn (rmE 1) [rf G 38 0, .int (iI a0), .int (iI a1)] (hp (m)) (.inr iaE) (hp (m)) := by
  refine x_entry (by decide +kernel) mwX7_wearIn rfl (Nat.le_of_ble_eq_true rfl) ?_
  show X G MX7_wearIn (rmE 1) 0 [(0, rf G 38 0), (1, .int (iI a0)), (2, .int (iI a1))] [] (hp (m)) 0 0 (.inr iaE) (hp (m))
  have n8 := hP.2.2.1
  have n4 := hP.2.2.2.1
  have n12 := hP.2.2.2.2.2.1
  have nc8 := hP.2.2.2.2.2.2.1
  have tb := hB.1
  have nt16 := hB.2.2.2.1.1
  have nl16 := hB.2.2.2.2.1.1
  refine x_iload_n (pc := 0) dX7_wearIn_0 1 rfl ?_
  refine x_aload_n (pc := 1) dX7_wearIn_1 0 rfl ?_
  refine y_getR (pc := 2) dX7_wearIn_2 flX7_15 rfl rfl rfl (by decide) ?_
  refine y_getR (pc := 5) (b := 0) dX7_wearIn_5 flX7_21 rfl rfl rfl (by decide) ?_
  refine y_getI (pc := 8) 2 dX7_wearIn_8 flX7_74 rfl rfl rfl (by decide) ?_
  refine x_callS (pc := 11) _ dX7_wearIn_11 (ct_ckI ha0 (by unfold inI; omega) h0) lkX7_123 rfl (by decide) (Nat.le_of_ble_eq_true rfl) rfl ?_
  refine x_iload_n (pc := 14) dX7_wearIn_14 2 rfl ?_
  refine x_iconst (pc := 15) dX7_wearIn_15 ?_
  refine x_sipush (pc := 16) (z := 500) dX7_wearIn_16 (by decide) ?_
  exact x_callSX (pc := 19) _ dX7_wearIn_19 (ct_ckRx ha1 (by unfold inI; omega) (by unfold inI; omega) h1) lkX7_80 rfl rfl (by decide) (Nat.le_of_ble_eq_true rfl) rfl

theorem P_endIn {G : GG} {m : Mem} (hP : BP m 0) (hB : BS m 0 0) (hT : m 0 0 0 ≤ 9999) (hh0 : 0 ≤ m 36 0 0 ∧ m 36 0 0 ≤ 8) (hh1 : 0 ≤ m 36 0 1 ∧ m 36 0 1 < 8) {a0 : Int} (ha0 : inI a0) (h0 : 0 ≤ a0 ∧ a0 < m 2 0 0)  : Ct G MX7_endIn (rmD 9) [rf G 38 0, .int (iI a0)] (hp (m)) (.inl (some (.int (iI (if teM (cpS m 0 1) 0 1 a0 (500 : Int).toNat 20 1 a0 ≤ 2 then -1 else teN (cpS m 0 1) 0 1 a0 (500 : Int).toNat))))) (hp (teM (cpS m 0 1) 0 1 a0 (500 : Int).toNat)) := by
  refine x_entry (by decide +kernel) mwX7_endIn rfl (Nat.le_of_ble_eq_true rfl) ?_
  show X G MX7_endIn (rmD 9) 0 [(0, rf G 38 0), (1, .int (iI a0))] [] (hp (m)) 0 0 (.inl (some (.int (iI (if teM (cpS m 0 1) 0 1 a0 (500 : Int).toNat 20 1 a0 ≤ 2 then -1 else teN (cpS m 0 1) 0 1 a0 (500 : Int).toNat))))) (hp (teM (cpS m 0 1) 0 1 a0 (500 : Int).toNat))
  have n8 := hP.2.2.1
  have n4 := hP.2.2.2.1
  have n12 := hP.2.2.2.2.2.1
  have nc8 := hP.2.2.2.2.2.2.1
  have tb := hB.1
  have nt16 := hB.2.2.2.1.1
  have nl16 := hB.2.2.2.2.1.1
  refine x_iload_n (pc := 0) dX7_endIn_0 1 rfl ?_
  refine x_aload_n (pc := 1) dX7_endIn_1 0 rfl ?_
  refine y_getR (pc := 2) dX7_endIn_2 flX7_15 rfl rfl rfl (by decide) ?_
  refine y_getR (pc := 5) (b := 0) dX7_endIn_5 flX7_93 rfl rfl rfl (by decide) ?_
  refine y_getR (pc := 8) dX7_endIn_8 flX7_111 rfl rfl rfl (by decide) ?_
  refine y_getI (pc := 11) 0 dX7_endIn_11 flX7_115 rfl rfl rfl (by decide) ?_
  refine x_callS (pc := 14) _ dX7_endIn_14 (ct_ckI ha0 (by unfold inI; omega) h0) lkX7_123 rfl (by decide) (Nat.le_of_ble_eq_true rfl) rfl ?_
  refine x_aload_n (pc := 17) dX7_endIn_17 0 rfl ?_
  refine y_getR (pc := 18) dX7_endIn_18 flX7_25 rfl rfl rfl (by decide) ?_
  refine y_getR (pc := 21) (b := 1) dX7_endIn_21 flX7_93 rfl rfl rfl (by decide) ?_
  refine x_aload_n (pc := 24) dX7_endIn_24 0 rfl ?_
  refine y_getR (pc := 25) dX7_endIn_25 flX7_15 rfl rfl rfl (by decide) ?_
  refine y_getR (pc := 28) (b := 0) dX7_endIn_28 flX7_93 rfl rfl rfl (by decide) ?_
  refine x_callV (pc := 31) _ dX7_endIn_31 (ct_State_copyFrom (a := 0) (b := 1) (by decide) (by decide) (by decide)) lkX7_296 rfl rfl rfl rfl (mem_dom0 (by decide) (by decide)) (by decide) (Nat.le_of_ble_eq_true rfl) rfl ?_
  have ff := fut_f hP hB
  have ft := fut_a (m := m) 0 0 (by decide)
  have f2 := fut_a (m := m) 2 0 (by decide)
  have f1 := fut_a (m := m) 1 0 (by decide)
  refine x_aload_n (pc := 34) dX7_endIn_34 0 rfl ?_
  refine y_getR (pc := 35) dX7_endIn_35 flX7_25 rfl rfl rfl (by decide) ?_
  refine x_iload_n (pc := 38) dX7_endIn_38 1 rfl ?_
  refine x_sipush (pc := 39) (z := 500) dX7_endIn_39 (by decide) ?_
  refine x_callV (pc := 42) _ dX7_endIn_42 (ct_passTicksToEnd (w := 1) (by decide) a0 500 (by omega) h0.1 (by omega) ff.1 ff.2 (by omega)) lkX7_293 rfl rfl rfl rfl (mem_dom0 (by decide) (by decide)) (by decide) (Nat.le_of_ble_eq_true rfl) rfl ?_
  refine x_nil (m' := teM (cpS m 0 1) 0 1 a0 (500 : Int).toNat) rfl ?_
  refine x_top (v' := .int (iI (teN (cpS m 0 1) 0 1 a0 (500 : Int).toNat))) rfl ?_
  have tf := teM_f (l := a0) (500 : Int).toNat (cpS m 0 1) ff.1 ff.2 (by omega)
  have te2 : teM (cpS m 0 1) 0 1 a0 (500 : Int).toNat 2 1 0 = m 2 0 0 := fut_e (by omega)
  have tl := tf.2.2.2.2.2.1.2 a0 h0.1 (by omega)
  have tl5 := tl.2.2.2.2.2.1
  refine x_istore_n (pc := 45) (lv' := [(2, _), (0, _), (1, _)]) dX7_endIn_45 rfl (by decide) rfl ?_
  refine x_aload_n (pc := 46) dX7_endIn_46 1 rfl ?_
  refine y_getR (pc := 47) dX7_endIn_47 flX7_25 rfl rfl rfl (by decide) ?_
  refine y_getR (pc := 50) (b := 1) dX7_endIn_50 flX7_93 rfl rfl rfl (by decide) ?_
  refine y_getR (pc := 53) dX7_endIn_53 flX7_111 rfl rfl rfl (by decide) ?_
  refine x_iload_n (pc := 56) dX7_endIn_56 2 rfl ?_
  refine x_callV (pc := 57) _ dX7_endIn_57 (ct_isOpen (s := 1) (by decide) a0 (by omega) (by unfold inI; omega)) lkX7_267 rfl rfl rfl rfl (mem_dom0 (by decide) (by decide)) (by decide) (Nat.le_of_ble_eq_true rfl) rfl ?_
  refine x_ifb_eq (pc := 60) 67 dX7_endIn_60 (by decide) (fun c_60 => ?_) (fun c_60 => ?_)
  · refine x_iload_n (pc := 67) dX7_endIn_67 0 rfl ?_
    exact y_iret (pc := 68) dX7_endIn_68 rfl (by rw [if_neg c_60]) rfl
  · refine x_iconst (pc := 63) dX7_endIn_63 ?_
    refine x_goto (pc := 64) 68 dX7_endIn_64 (by decide) ?_
    exact y_iret (pc := 68) dX7_endIn_68 rfl (by rw [if_pos c_60]) rfl

theorem Px_endIn_0 {G : GG} {m : Mem} (hP : BP m 0) (hB : BS m 0 0) (hT : m 0 0 0 ≤ 9999) (hh0 : 0 ≤ m 36 0 0 ∧ m 36 0 0 ≤ 8) (hh1 : 0 ≤ m 36 0 1 ∧ m 36 0 1 < 8) {a0 : Int} (ha0 : inI a0)  (h0 : ¬ (0 ≤ a0 ∧ a0 < m 2 0 0)) : Ct G MX7_endIn (rmE 1) [rf G 38 0, .int (iI a0)] (hp (m)) (.inr ioE) (hp (m)) := by
  refine x_entry (by decide +kernel) mwX7_endIn rfl (Nat.le_of_ble_eq_true rfl) ?_
  show X G MX7_endIn (rmE 1) 0 [(0, rf G 38 0), (1, .int (iI a0))] [] (hp (m)) 0 0 (.inr ioE) (hp (m))
  have n8 := hP.2.2.1
  have n4 := hP.2.2.2.1
  have n12 := hP.2.2.2.2.2.1
  have nc8 := hP.2.2.2.2.2.2.1
  have tb := hB.1
  have nt16 := hB.2.2.2.1.1
  have nl16 := hB.2.2.2.2.1.1
  refine x_iload_n (pc := 0) dX7_endIn_0 1 rfl ?_
  refine x_aload_n (pc := 1) dX7_endIn_1 0 rfl ?_
  refine y_getR (pc := 2) dX7_endIn_2 flX7_15 rfl rfl rfl (by decide) ?_
  refine y_getR (pc := 5) (b := 0) dX7_endIn_5 flX7_93 rfl rfl rfl (by decide) ?_
  refine y_getR (pc := 8) dX7_endIn_8 flX7_111 rfl rfl rfl (by decide) ?_
  refine y_getI (pc := 11) 0 dX7_endIn_11 flX7_115 rfl rfl rfl (by decide) ?_
  exact x_callSX (pc := 14) _ dX7_endIn_14 (ct_ckIx ha0 (by unfold inI; omega) h0) lkX7_123 rfl rfl (by decide) (Nat.le_of_ble_eq_true rfl) rfl

theorem P_endAs {G : GG} {m : Mem} (hP : BP m 0) (hB : BS m 0 0) (hT : m 0 0 0 ≤ 9999) (hh0 : 0 ≤ m 36 0 0 ∧ m 36 0 0 ≤ 8) (hh1 : 0 ≤ m 36 0 1 ∧ m 36 0 1 < 8) {a0 : Int} (ha0 : inI a0) (h0 : 0 ≤ a0 ∧ a0 < m 2 0 0)  : Ct G MX7_endAs (rmD 9) [rf G 38 0, .int (iI a0)] (hp (m)) (.inl (some (.int (iI (teM (cpS m 0 1) 0 1 a0 (500 : Int).toNat 20 1 a0))))) (hp (teM (cpS m 0 1) 0 1 a0 (500 : Int).toNat)) := by
  refine x_entry (by decide +kernel) mwX7_endAs rfl (Nat.le_of_ble_eq_true rfl) ?_
  show X G MX7_endAs (rmD 9) 0 [(0, rf G 38 0), (1, .int (iI a0))] [] (hp (m)) 0 0 (.inl (some (.int (iI (teM (cpS m 0 1) 0 1 a0 (500 : Int).toNat 20 1 a0))))) (hp (teM (cpS m 0 1) 0 1 a0 (500 : Int).toNat))
  have n8 := hP.2.2.1
  have n4 := hP.2.2.2.1
  have n12 := hP.2.2.2.2.2.1
  have nc8 := hP.2.2.2.2.2.2.1
  have tb := hB.1
  have nt16 := hB.2.2.2.1.1
  have nl16 := hB.2.2.2.2.1.1
  refine x_iload_n (pc := 0) dX7_endAs_0 1 rfl ?_
  refine x_aload_n (pc := 1) dX7_endAs_1 0 rfl ?_
  refine y_getR (pc := 2) dX7_endAs_2 flX7_15 rfl rfl rfl (by decide) ?_
  refine y_getR (pc := 5) (b := 0) dX7_endAs_5 flX7_93 rfl rfl rfl (by decide) ?_
  refine y_getR (pc := 8) dX7_endAs_8 flX7_111 rfl rfl rfl (by decide) ?_
  refine y_getI (pc := 11) 0 dX7_endAs_11 flX7_115 rfl rfl rfl (by decide) ?_
  refine x_callS (pc := 14) _ dX7_endAs_14 (ct_ckI ha0 (by unfold inI; omega) h0) lkX7_123 rfl (by decide) (Nat.le_of_ble_eq_true rfl) rfl ?_
  refine x_aload_n (pc := 17) dX7_endAs_17 0 rfl ?_
  refine y_getR (pc := 18) dX7_endAs_18 flX7_25 rfl rfl rfl (by decide) ?_
  refine y_getR (pc := 21) (b := 1) dX7_endAs_21 flX7_93 rfl rfl rfl (by decide) ?_
  refine x_aload_n (pc := 24) dX7_endAs_24 0 rfl ?_
  refine y_getR (pc := 25) dX7_endAs_25 flX7_15 rfl rfl rfl (by decide) ?_
  refine y_getR (pc := 28) (b := 0) dX7_endAs_28 flX7_93 rfl rfl rfl (by decide) ?_
  refine x_callV (pc := 31) _ dX7_endAs_31 (ct_State_copyFrom (a := 0) (b := 1) (by decide) (by decide) (by decide)) lkX7_296 rfl rfl rfl rfl (mem_dom0 (by decide) (by decide)) (by decide) (Nat.le_of_ble_eq_true rfl) rfl ?_
  have ff := fut_f hP hB
  have ft := fut_a (m := m) 0 0 (by decide)
  have f2 := fut_a (m := m) 2 0 (by decide)
  have f1 := fut_a (m := m) 1 0 (by decide)
  refine x_aload_n (pc := 34) dX7_endAs_34 0 rfl ?_
  refine y_getR (pc := 35) dX7_endAs_35 flX7_25 rfl rfl rfl (by decide) ?_
  refine x_iload_n (pc := 38) dX7_endAs_38 1 rfl ?_
  refine x_sipush (pc := 39) (z := 500) dX7_endAs_39 (by decide) ?_
  refine x_callV (pc := 42) _ dX7_endAs_42 (ct_passTicksToEnd (w := 1) (by decide) a0 500 (by omega) h0.1 (by omega) ff.1 ff.2 (by omega)) lkX7_293 rfl rfl rfl rfl (mem_dom0 (by decide) (by decide)) (by decide) (Nat.le_of_ble_eq_true rfl) rfl ?_
  refine x_nil (m' := teM (cpS m 0 1) 0 1 a0 (500 : Int).toNat) rfl ?_
  refine x_top (v' := .int (iI (teN (cpS m 0 1) 0 1 a0 (500 : Int).toNat))) rfl ?_
  have tf := teM_f (l := a0) (500 : Int).toNat (cpS m 0 1) ff.1 ff.2 (by omega)
  have te2 : teM (cpS m 0 1) 0 1 a0 (500 : Int).toNat 2 1 0 = m 2 0 0 := fut_e (by omega)
  have tl := tf.2.2.2.2.2.1.2 a0 h0.1 (by omega)
  have tl5 := tl.2.2.2.2.2.1
  refine x_pop (pc := 45) dX7_endAs_45 rfl ?_
  refine x_aload_n (pc := 46) dX7_endAs_46 0 rfl ?_
  refine y_getR (pc := 47) dX7_endAs_47 flX7_25 rfl rfl rfl (by decide) ?_
  refine y_getR (pc := 50) (b := 1) dX7_endAs_50 flX7_93 rfl rfl rfl (by decide) ?_
  refine y_getR (pc := 53) dX7_endAs_53 flX7_111 rfl rfl rfl (by decide) ?_
  refine y_getR (pc := 56) dX7_endAs_56 flX7_229 rfl rfl rfl (by decide) ?_
  refine x_iload_n (pc := 59) dX7_endAs_59 1 rfl ?_
  refine y_iald (pc := 60) dX7_endAs_60 rfl (by decide) (by omega) ?_
  exact y_iret (pc := 61) dX7_endAs_61 rfl rfl rfl

theorem Px_endAs_0 {G : GG} {m : Mem} (hP : BP m 0) (hB : BS m 0 0) (hT : m 0 0 0 ≤ 9999) (hh0 : 0 ≤ m 36 0 0 ∧ m 36 0 0 ≤ 8) (hh1 : 0 ≤ m 36 0 1 ∧ m 36 0 1 < 8) {a0 : Int} (ha0 : inI a0)  (h0 : ¬ (0 ≤ a0 ∧ a0 < m 2 0 0)) : Ct G MX7_endAs (rmE 1) [rf G 38 0, .int (iI a0)] (hp (m)) (.inr ioE) (hp (m)) := by
  refine x_entry (by decide +kernel) mwX7_endAs rfl (Nat.le_of_ble_eq_true rfl) ?_
  show X G MX7_endAs (rmE 1) 0 [(0, rf G 38 0), (1, .int (iI a0))] [] (hp (m)) 0 0 (.inr ioE) (hp (m))
  have n8 := hP.2.2.1
  have n4 := hP.2.2.2.1
  have n12 := hP.2.2.2.2.2.1
  have nc8 := hP.2.2.2.2.2.2.1
  have tb := hB.1
  have nt16 := hB.2.2.2.1.1
  have nl16 := hB.2.2.2.2.1.1
  refine x_iload_n (pc := 0) dX7_endAs_0 1 rfl ?_
  refine x_aload_n (pc := 1) dX7_endAs_1 0 rfl ?_
  refine y_getR (pc := 2) dX7_endAs_2 flX7_15 rfl rfl rfl (by decide) ?_
  refine y_getR (pc := 5) (b := 0) dX7_endAs_5 flX7_93 rfl rfl rfl (by decide) ?_
  refine y_getR (pc := 8) dX7_endAs_8 flX7_111 rfl rfl rfl (by decide) ?_
  refine y_getI (pc := 11) 0 dX7_endAs_11 flX7_115 rfl rfl rfl (by decide) ?_
  exact x_callSX (pc := 14) _ dX7_endAs_14 (ct_ckIx ha0 (by unfold inI; omega) h0) lkX7_123 rfl rfl (by decide) (Nat.le_of_ble_eq_true rfl) rfl

theorem P_owes {G : GG} {m : Mem} (hP : BP m 0) (hB : BS m 0 0) (hT : m 0 0 0 ≤ 9999) (hh0 : 0 ≤ m 36 0 0 ∧ m 36 0 0 ≤ 8) (hh1 : 0 ≤ m 36 0 1 ∧ m 36 0 1 < 8) {a0 : Int} (ha0 : inI a0) (h0 : 0 ≤ a0 ∧ a0 < m 22 0 2) (hw : ∀ l, 0 ≤ l → l < m 2 0 0 → inI (m 29 0 (m 15 0 l))) : Ct G MX7_owes (rmD 9) [rf G 38 0, .int (iI a0)] (hp (m)) (.inl (some (.int (iI (sm (owedWC m 0 0 29 a0) (m 2 0 0).toNat))))) (hp (m)) := by
  refine x_entry (by decide +kernel) mwX7_owes rfl (Nat.le_of_ble_eq_true rfl) ?_
  show X G MX7_owes (rmD 9) 0 [(0, rf G 38 0), (1, .int (iI a0))] [] (hp (m)) 0 0 (.inl (some (.int (iI (sm (owedWC m 0 0 29 a0) (m 2 0 0).toNat))))) (hp (m))
  have n8 := hP.2.2.1
  have n4 := hP.2.2.2.1
  have n12 := hP.2.2.2.2.2.1
  have nc8 := hP.2.2.2.2.2.2.1
  have tb := hB.1
  have nt16 := hB.2.2.2.1.1
  have nl16 := hB.2.2.2.2.1.1
  have hLF : ∀ l, 0 ≤ l → l < m 2 0 0 → LF m 0 0 l := fun l a b => BS_lf hP hB a b
  refine x_iload_n (pc := 0) dX7_owes_0 1 rfl ?_
  refine x_aload_n (pc := 1) dX7_owes_1 0 rfl ?_
  refine y_getR (pc := 2) dX7_owes_2 flX7_15 rfl rfl rfl (by decide) ?_
  refine y_getR (pc := 5) (b := 0) dX7_owes_5 flX7_21 rfl rfl rfl (by decide) ?_
  refine y_getI (pc := 8) 2 dX7_owes_8 flX7_74 rfl rfl rfl (by decide) ?_
  refine x_callS (pc := 11) _ dX7_owes_11 (ct_ckI ha0 (by unfold inI; omega) h0) lkX7_123 rfl (by decide) (Nat.le_of_ble_eq_true rfl) rfl ?_
  refine x_aload_n (pc := 14) dX7_owes_14 0 rfl ?_
  refine y_getR (pc := 15) dX7_owes_15 flX7_15 rfl rfl rfl (by decide) ?_
  refine x_aload_n (pc := 18) dX7_owes_18 0 rfl ?_
  refine y_getR (pc := 19) dX7_owes_19 flX7_15 rfl rfl rfl (by decide) ?_
  refine y_getR (pc := 22) (b := 0) dX7_owes_22 flX7_21 rfl rfl rfl (by decide) ?_
  refine y_getR (pc := 25) dX7_owes_25 flX7_186 rfl rfl rfl (by decide) ?_
  refine x_iload_n (pc := 28) dX7_owes_28 1 rfl ?_
  refine x_callV (pc := 29) _ dX7_owes_29 (ct_owedWhereB (w := 0) (by decide) a0 ha0 nl16 hLF hw) lkX7_313 rfl rfl rfl rfl (mem_dom0 (by decide) (by decide)) (by decide) (Nat.le_of_ble_eq_true rfl) rfl ?_
  exact y_iret (pc := 32) dX7_owes_32 rfl rfl rfl

theorem Px_owes_0 {G : GG} {m : Mem} (hP : BP m 0) (hB : BS m 0 0) (hT : m 0 0 0 ≤ 9999) (hh0 : 0 ≤ m 36 0 0 ∧ m 36 0 0 ≤ 8) (hh1 : 0 ≤ m 36 0 1 ∧ m 36 0 1 < 8) {a0 : Int} (ha0 : inI a0)  (h0 : ¬ (0 ≤ a0 ∧ a0 < m 22 0 2)) : Ct G MX7_owes (rmE 1) [rf G 38 0, .int (iI a0)] (hp (m)) (.inr ioE) (hp (m)) := by
  refine x_entry (by decide +kernel) mwX7_owes rfl (Nat.le_of_ble_eq_true rfl) ?_
  show X G MX7_owes (rmE 1) 0 [(0, rf G 38 0), (1, .int (iI a0))] [] (hp (m)) 0 0 (.inr ioE) (hp (m))
  have n8 := hP.2.2.1
  have n4 := hP.2.2.2.1
  have n12 := hP.2.2.2.2.2.1
  have nc8 := hP.2.2.2.2.2.2.1
  have tb := hB.1
  have nt16 := hB.2.2.2.1.1
  have nl16 := hB.2.2.2.2.1.1
  refine x_iload_n (pc := 0) dX7_owes_0 1 rfl ?_
  refine x_aload_n (pc := 1) dX7_owes_1 0 rfl ?_
  refine y_getR (pc := 2) dX7_owes_2 flX7_15 rfl rfl rfl (by decide) ?_
  refine y_getR (pc := 5) (b := 0) dX7_owes_5 flX7_21 rfl rfl rfl (by decide) ?_
  refine y_getI (pc := 8) 2 dX7_owes_8 flX7_74 rfl rfl rfl (by decide) ?_
  exact x_callSX (pc := 11) _ dX7_owes_11 (ct_ckIx ha0 (by unfold inI; omega) h0) lkX7_123 rfl rfl (by decide) (Nat.le_of_ble_eq_true rfl) rfl

theorem P_isOwed {G : GG} {m : Mem} (hP : BP m 0) (hB : BS m 0 0) (hT : m 0 0 0 ≤ 9999) (hh0 : 0 ≤ m 36 0 0 ∧ m 36 0 0 ≤ 8) (hh1 : 0 ≤ m 36 0 1 ∧ m 36 0 1 < 8) {a0 : Int} (ha0 : inI a0) (h0 : 0 ≤ a0 ∧ a0 < m 22 0 2) (hw : ∀ l, 0 ≤ l → l < m 2 0 0 → inI (m 28 0 (m 15 0 l))) : Ct G MX7_isOwed (rmD 9) [rf G 38 0, .int (iI a0)] (hp (m)) (.inl (some (.int (iI (sm (owedWC m 0 0 28 a0) (m 2 0 0).toNat))))) (hp (m)) := by
  refine x_entry (by decide +kernel) mwX7_isOwed rfl (Nat.le_of_ble_eq_true rfl) ?_
  show X G MX7_isOwed (rmD 9) 0 [(0, rf G 38 0), (1, .int (iI a0))] [] (hp (m)) 0 0 (.inl (some (.int (iI (sm (owedWC m 0 0 28 a0) (m 2 0 0).toNat))))) (hp (m))
  have n8 := hP.2.2.1
  have n4 := hP.2.2.2.1
  have n12 := hP.2.2.2.2.2.1
  have nc8 := hP.2.2.2.2.2.2.1
  have tb := hB.1
  have nt16 := hB.2.2.2.1.1
  have nl16 := hB.2.2.2.2.1.1
  have hLF : ∀ l, 0 ≤ l → l < m 2 0 0 → LF m 0 0 l := fun l a b => BS_lf hP hB a b
  refine x_iload_n (pc := 0) dX7_isOwed_0 1 rfl ?_
  refine x_aload_n (pc := 1) dX7_isOwed_1 0 rfl ?_
  refine y_getR (pc := 2) dX7_isOwed_2 flX7_15 rfl rfl rfl (by decide) ?_
  refine y_getR (pc := 5) (b := 0) dX7_isOwed_5 flX7_21 rfl rfl rfl (by decide) ?_
  refine y_getI (pc := 8) 2 dX7_isOwed_8 flX7_74 rfl rfl rfl (by decide) ?_
  refine x_callS (pc := 11) _ dX7_isOwed_11 (ct_ckI ha0 (by unfold inI; omega) h0) lkX7_123 rfl (by decide) (Nat.le_of_ble_eq_true rfl) rfl ?_
  refine x_aload_n (pc := 14) dX7_isOwed_14 0 rfl ?_
  refine y_getR (pc := 15) dX7_isOwed_15 flX7_15 rfl rfl rfl (by decide) ?_
  refine x_aload_n (pc := 18) dX7_isOwed_18 0 rfl ?_
  refine y_getR (pc := 19) dX7_isOwed_19 flX7_15 rfl rfl rfl (by decide) ?_
  refine y_getR (pc := 22) (b := 0) dX7_isOwed_22 flX7_21 rfl rfl rfl (by decide) ?_
  refine y_getR (pc := 25) dX7_isOwed_25 flX7_183 rfl rfl rfl (by decide) ?_
  refine x_iload_n (pc := 28) dX7_isOwed_28 1 rfl ?_
  refine x_callV (pc := 29) _ dX7_isOwed_29 (ct_owedWhereL (w := 0) (by decide) a0 ha0 nl16 hLF hw) lkX7_313 rfl rfl rfl rfl (mem_dom0 (by decide) (by decide)) (by decide) (Nat.le_of_ble_eq_true rfl) rfl ?_
  exact y_iret (pc := 32) dX7_isOwed_32 rfl rfl rfl

theorem Px_isOwed_0 {G : GG} {m : Mem} (hP : BP m 0) (hB : BS m 0 0) (hT : m 0 0 0 ≤ 9999) (hh0 : 0 ≤ m 36 0 0 ∧ m 36 0 0 ≤ 8) (hh1 : 0 ≤ m 36 0 1 ∧ m 36 0 1 < 8) {a0 : Int} (ha0 : inI a0)  (h0 : ¬ (0 ≤ a0 ∧ a0 < m 22 0 2)) : Ct G MX7_isOwed (rmE 1) [rf G 38 0, .int (iI a0)] (hp (m)) (.inr ioE) (hp (m)) := by
  refine x_entry (by decide +kernel) mwX7_isOwed rfl (Nat.le_of_ble_eq_true rfl) ?_
  show X G MX7_isOwed (rmE 1) 0 [(0, rf G 38 0), (1, .int (iI a0))] [] (hp (m)) 0 0 (.inr ioE) (hp (m))
  have n8 := hP.2.2.1
  have n4 := hP.2.2.2.1
  have n12 := hP.2.2.2.2.2.1
  have nc8 := hP.2.2.2.2.2.2.1
  have tb := hB.1
  have nt16 := hB.2.2.2.1.1
  have nl16 := hB.2.2.2.2.1.1
  refine x_iload_n (pc := 0) dX7_isOwed_0 1 rfl ?_
  refine x_aload_n (pc := 1) dX7_isOwed_1 0 rfl ?_
  refine y_getR (pc := 2) dX7_isOwed_2 flX7_15 rfl rfl rfl (by decide) ?_
  refine y_getR (pc := 5) (b := 0) dX7_isOwed_5 flX7_21 rfl rfl rfl (by decide) ?_
  refine y_getI (pc := 8) 2 dX7_isOwed_8 flX7_74 rfl rfl rfl (by decide) ?_
  exact x_callSX (pc := 11) _ dX7_isOwed_11 (ct_ckIx ha0 (by unfold inI; omega) h0) lkX7_123 rfl rfl (by decide) (Nat.le_of_ble_eq_true rfl) rfl

theorem P_undo0 {G : GG} {m : Mem} (hP : BP m 0) (hB : BS m 0 0) (hT : m 0 0 0 ≤ 9999) (hh0 : 0 ≤ m 36 0 0 ∧ m 36 0 0 ≤ 8) (hh1 : 0 ≤ m 36 0 1 ∧ m 36 0 1 < 8)   (hz : m 36 0 0 = 0) : Ct G MX7_undo (rmD 9) [rf G 38 0] (hp (m)) (.inl (some (.int (iI (-1))))) (hp (m)) := by
  refine x_entry (by decide +kernel) mwX7_undo rfl (Nat.le_of_ble_eq_true rfl) ?_
  show X G MX7_undo (rmD 9) 0 [(0, rf G 38 0)] [] (hp (m)) 0 0 (.inl (some (.int (iI (-1))))) (hp (m))
  have n8 := hP.2.2.1
  have n4 := hP.2.2.2.1
  have n12 := hP.2.2.2.2.2.1
  have nc8 := hP.2.2.2.2.2.2.1
  have tb := hB.1
  have nt16 := hB.2.2.2.1.1
  have nl16 := hB.2.2.2.2.1.1
  refine x_aload_n (pc := 0) dX7_undo_0 0 rfl ?_
  refine y_getR (pc := 1) dX7_undo_1 flX7_38 rfl rfl rfl (by decide) ?_
  refine y_getI (pc := 4) 0 dX7_undo_4 flX7_122 rfl rfl rfl (by decide) ?_
  refine x_if_ne (pc := 7) 12 dX7_undo_7 (by decide) (by unfold inI; omega) (fun c_7 => absurd c_7 (fun z => z hz)) (fun c_7 => ?_)
  refine x_iconst (pc := 10) dX7_undo_10 ?_
  exact y_iret (pc := 11) dX7_undo_11 rfl rfl rfl

theorem P_undo1 {G : GG} {m : Mem} (hP : BP m 0) (hB : BS m 0 0) (hT : m 0 0 0 ≤ 9999) (hh0 : 0 ≤ m 36 0 0 ∧ m 36 0 0 ≤ 8) (hh1 : 0 ≤ m 36 0 1 ∧ m 36 0 1 < 8)   (hz : m 36 0 0 ≠ 0) : Ct G MX7_undo (rmD 9) [rf G 38 0] (hp (m)) (.inl (some (.int (iI (m 36 0 0 - 1))))) (hp (popC m)) := by
  refine x_entry (by decide +kernel) mwX7_undo rfl (Nat.le_of_ble_eq_true rfl) ?_
  show X G MX7_undo (rmD 9) 0 [(0, rf G 38 0)] [] (hp (m)) 0 0 (.inl (some (.int (iI (m 36 0 0 - 1))))) (hp (popC m))
  have n8 := hP.2.2.1
  have n4 := hP.2.2.2.1
  have n12 := hP.2.2.2.2.2.1
  have nc8 := hP.2.2.2.2.2.2.1
  have tb := hB.1
  have nt16 := hB.2.2.2.1.1
  have nl16 := hB.2.2.2.2.1.1
  refine x_aload_n (pc := 0) dX7_undo_0 0 rfl ?_
  refine y_getR (pc := 1) dX7_undo_1 flX7_38 rfl rfl rfl (by decide) ?_
  refine y_getI (pc := 4) 0 dX7_undo_4 flX7_122 rfl rfl rfl (by decide) ?_
  refine x_if_ne (pc := 7) 12 dX7_undo_7 (by decide) (by unfold inI; omega) (fun c_7 => ?_) (fun c_7 => absurd c_7 hz)
  refine x_aload_n (pc := 12) dX7_undo_12 0 rfl ?_
  refine y_getR (pc := 13) dX7_undo_13 flX7_38 rfl rfl rfl (by decide) ?_
  refine x_aload_n (pc := 16) dX7_undo_16 0 rfl ?_
  refine y_getR (pc := 17) dX7_undo_17 flX7_15 rfl rfl rfl (by decide) ?_
  refine y_getR (pc := 20) (b := 0) dX7_undo_20 flX7_93 rfl rfl rfl (by decide) ?_
  refine x_callV (pc := 23) _ dX7_undo_23 (ct_popInto hh1) lkX7_317 rfl rfl rfl rfl (mem_dom0 (by decide) (by decide)) (by decide) (Nat.le_of_ble_eq_true rfl) rfl ?_
  refine x_aload_n (pc := 26) dX7_undo_26 0 rfl ?_
  refine y_getR (pc := 27) dX7_undo_27 flX7_38 rfl rfl rfl (by decide) ?_
  refine y_getI (pc := 30) 0 dX7_undo_30 flX7_122 rfl rfl rfl (by decide) ?_
  exact y_iret (pc := 33) dX7_undo_33 rfl (by unfold popC; rw [cpS_k (by decide)]; rfl) rfl

theorem P_saveSnapshot {G : GG} {m : Mem} (hP : BP m 0) (hB : BS m 0 0) (hT : m 0 0 0 ≤ 9999) (hh0 : 0 ≤ m 36 0 0 ∧ m 36 0 0 ≤ 8) (hh1 : 0 ≤ m 36 0 1 ∧ m 36 0 1 < 8) {a0 : Int} (ha0 : inI a0) (h0 : 0 ≤ a0 ∧ a0 ≤ 1)  : Ct G MX7_saveSnapshot (rmD 9) [rf G 38 0, .int (iI a0)] (hp (m)) (.inl (some (.int (iI (m 0 0 0))))) (hp (up3 (cpS (cpP m 0 (1 + a0.toNat)) 0 (2 + a0.toNat)) 40 0 a0 1)) := by
  refine x_entry (by decide +kernel) mwX7_saveSnapshot rfl (Nat.le_of_ble_eq_true rfl) ?_
  show X G MX7_saveSnapshot (rmD 9) 0 [(0, rf G 38 0), (1, .int (iI a0))] [] (hp (m)) 0 0 (.inl (some (.int (iI (m 0 0 0))))) (hp (up3 (cpS (cpP m 0 (1 + a0.toNat)) 0 (2 + a0.toNat)) 40 0 a0 1))
  have n8 := hP.2.2.1
  have n4 := hP.2.2.2.1
  have n12 := hP.2.2.2.2.2.1
  have nc8 := hP.2.2.2.2.2.2.1
  have tb := hB.1
  have nt16 := hB.2.2.2.1.1
  have nl16 := hB.2.2.2.2.1.1
  refine x_iload_n (pc := 0) dX7_saveSnapshot_0 1 rfl ?_
  refine x_iconst (pc := 1) dX7_saveSnapshot_1 ?_
  refine x_iconst (pc := 2) dX7_saveSnapshot_2 ?_
  refine x_callS (pc := 3) _ dX7_saveSnapshot_3 (ct_ckR ha0 (by unfold inI; omega) (by unfold inI; omega) h0) lkX7_80 rfl (by decide) (Nat.le_of_ble_eq_true rfl) rfl ?_
  refine x_aload_n (pc := 6) dX7_saveSnapshot_6 0 rfl ?_
  refine y_getR (pc := 7) dX7_saveSnapshot_7 flX7_42 rfl rfl rfl (by decide) ?_
  refine x_iload_n (pc := 10) dX7_saveSnapshot_10 1 rfl ?_
  refine y_aald (pc := 11) (tag := 1) dX7_saveSnapshot_11 rfl rfl (by decide) (by omega) rfl ?_
  refine x_aload_n (pc := 12) dX7_saveSnapshot_12 0 rfl ?_
  refine y_getR (pc := 13) dX7_saveSnapshot_13 flX7_15 rfl rfl rfl (by decide) ?_
  refine x_callV (pc := 16) _ dX7_saveSnapshot_16 (ct_World_copyFrom (a := 0) (b := 2 + a0.toNat) (by decide) (by omega) (by omega) (show 0 ≠ 2 + a0.toNat - 1 by omega)) lkX7_67 rfl rfl rfl rfl (mem_dom0 (by decide) (show 2 + a0.toNat < 5 by omega)) (by decide) (Nat.le_of_ble_eq_true rfl) rfl ?_
  refine x_nil (m' := cpS (cpP m 0 (1 + a0.toNat)) 0 (2 + a0.toNat)) (by show cpS (cpP m 0 (2 + a0.toNat - 1)) _ _ = _; rw [show 2 + a0.toNat - 1 = 1 + a0.toNat by omega]) ?_
  refine x_aload_n (pc := 19) dX7_saveSnapshot_19 0 rfl ?_
  refine y_getR (pc := 20) dX7_saveSnapshot_20 flX7_46 rfl rfl rfl (by decide) ?_
  refine x_iload_n (pc := 23) dX7_saveSnapshot_23 1 rfl ?_
  refine x_iconst (pc := 24) dX7_saveSnapshot_24 ?_
  refine y_zast (pc := 25) dX7_saveSnapshot_25 rfl (by decide) (by omega) (Or.inr rfl) ?_
  refine x_aload_n (pc := 26) dX7_saveSnapshot_26 0 rfl ?_
  refine y_getR (pc := 27) dX7_saveSnapshot_27 flX7_15 rfl rfl rfl (by decide) ?_
  refine y_getR (pc := 30) (b := 0) dX7_saveSnapshot_30 flX7_93 rfl rfl rfl (by decide) ?_
  refine y_getI (pc := 33) 0 dX7_saveSnapshot_33 flX7_233 rfl rfl rfl (by decide) ?_
  exact y_iret (pc := 36) dX7_saveSnapshot_36 rfl (by rw [up3_ne (by decide), cpS_i (by omega), cpP_k (by decide)]) rfl

theorem Px_saveSnapshot_0 {G : GG} {m : Mem} (hP : BP m 0) (hB : BS m 0 0) (hT : m 0 0 0 ≤ 9999) (hh0 : 0 ≤ m 36 0 0 ∧ m 36 0 0 ≤ 8) (hh1 : 0 ≤ m 36 0 1 ∧ m 36 0 1 < 8) {a0 : Int} (ha0 : inI a0)  (h0 : ¬ (0 ≤ a0 ∧ a0 ≤ 1)) : Ct G MX7_saveSnapshot (rmE 1) [rf G 38 0, .int (iI a0)] (hp (m)) (.inr iaE) (hp (m)) := by
  refine x_entry (by decide +kernel) mwX7_saveSnapshot rfl (Nat.le_of_ble_eq_true rfl) ?_
  show X G MX7_saveSnapshot (rmE 1) 0 [(0, rf G 38 0), (1, .int (iI a0))] [] (hp (m)) 0 0 (.inr iaE) (hp (m))
  have n8 := hP.2.2.1
  have n4 := hP.2.2.2.1
  have n12 := hP.2.2.2.2.2.1
  have nc8 := hP.2.2.2.2.2.2.1
  have tb := hB.1
  have nt16 := hB.2.2.2.1.1
  have nl16 := hB.2.2.2.2.1.1
  refine x_iload_n (pc := 0) dX7_saveSnapshot_0 1 rfl ?_
  refine x_iconst (pc := 1) dX7_saveSnapshot_1 ?_
  refine x_iconst (pc := 2) dX7_saveSnapshot_2 ?_
  exact x_callSX (pc := 3) _ dX7_saveSnapshot_3 (ct_ckRx ha0 (by unfold inI; omega) (by unfold inI; omega) h0) lkX7_80 rfl rfl (by decide) (Nat.le_of_ble_eq_true rfl) rfl

theorem P_restoreSnapshot0 {G : GG} {m : Mem} (hP : BP m 0) (hB : BS m 0 0) (hT : m 0 0 0 ≤ 9999) (hh0 : 0 ≤ m 36 0 0 ∧ m 36 0 0 ≤ 8) (hh1 : 0 ≤ m 36 0 1 ∧ m 36 0 1 < 8) {a0 : Int} (ha0 : inI a0) (h0 : 0 ≤ a0 ∧ a0 ≤ 1) (hz : m 40 0 a0 = 0) : Ct G MX7_restoreSnapshot (rmD 9) [rf G 38 0, .int (iI a0)] (hp (m)) (.inl (some (.int (iI (-1))))) (hp (m)) := by
  refine x_entry (by decide +kernel) mwX7_restoreSnapshot rfl (Nat.le_of_ble_eq_true rfl) ?_
  show X G MX7_restoreSnapshot (rmD 9) 0 [(0, rf G 38 0), (1, .int (iI a0))] [] (hp (m)) 0 0 (.inl (some (.int (iI (-1))))) (hp (m))
  have n8 := hP.2.2.1
  have n4 := hP.2.2.2.1
  have n12 := hP.2.2.2.2.2.1
  have nc8 := hP.2.2.2.2.2.2.1
  have tb := hB.1
  have nt16 := hB.2.2.2.1.1
  have nl16 := hB.2.2.2.2.1.1
  refine x_iload_n (pc := 0) dX7_restoreSnapshot_0 1 rfl ?_
  refine x_iconst (pc := 1) dX7_restoreSnapshot_1 ?_
  refine x_iconst (pc := 2) dX7_restoreSnapshot_2 ?_
  refine x_callS (pc := 3) _ dX7_restoreSnapshot_3 (ct_ckR ha0 (by unfold inI; omega) (by unfold inI; omega) h0) lkX7_80 rfl (by decide) (Nat.le_of_ble_eq_true rfl) rfl ?_
  refine x_aload_n (pc := 6) dX7_restoreSnapshot_6 0 rfl ?_
  refine y_getR (pc := 7) dX7_restoreSnapshot_7 flX7_46 rfl rfl rfl (by decide) ?_
  refine x_iload_n (pc := 10) dX7_restoreSnapshot_10 1 rfl ?_
  refine y_zald (pc := 11) dX7_restoreSnapshot_11 rfl (by decide) (by omega) ?_
  refine x_if_ne (pc := 12) 17 dX7_restoreSnapshot_12 (by decide) (by unfold inI; omega) (fun c_12 => absurd c_12 (fun z => z hz)) (fun c_12 => ?_)
  refine x_iconst (pc := 15) dX7_restoreSnapshot_15 ?_
  exact y_iret (pc := 16) dX7_restoreSnapshot_16 rfl rfl rfl

theorem Px_restoreSnapshot_0 {G : GG} {m : Mem} (hP : BP m 0) (hB : BS m 0 0) (hT : m 0 0 0 ≤ 9999) (hh0 : 0 ≤ m 36 0 0 ∧ m 36 0 0 ≤ 8) (hh1 : 0 ≤ m 36 0 1 ∧ m 36 0 1 < 8) {a0 : Int} (ha0 : inI a0)  (h0 : ¬ (0 ≤ a0 ∧ a0 ≤ 1)) : Ct G MX7_restoreSnapshot (rmE 1) [rf G 38 0, .int (iI a0)] (hp (m)) (.inr iaE) (hp (m)) := by
  refine x_entry (by decide +kernel) mwX7_restoreSnapshot rfl (Nat.le_of_ble_eq_true rfl) ?_
  show X G MX7_restoreSnapshot (rmE 1) 0 [(0, rf G 38 0), (1, .int (iI a0))] [] (hp (m)) 0 0 (.inr iaE) (hp (m))
  have n8 := hP.2.2.1
  have n4 := hP.2.2.2.1
  have n12 := hP.2.2.2.2.2.1
  have nc8 := hP.2.2.2.2.2.2.1
  have tb := hB.1
  have nt16 := hB.2.2.2.1.1
  have nl16 := hB.2.2.2.2.1.1
  refine x_iload_n (pc := 0) dX7_restoreSnapshot_0 1 rfl ?_
  refine x_iconst (pc := 1) dX7_restoreSnapshot_1 ?_
  refine x_iconst (pc := 2) dX7_restoreSnapshot_2 ?_
  exact x_callSX (pc := 3) _ dX7_restoreSnapshot_3 (ct_ckRx ha0 (by unfold inI; omega) (by unfold inI; omega) h0) lkX7_80 rfl rfl (by decide) (Nat.le_of_ble_eq_true rfl) rfl

theorem P_restoreSnapshot1 {G : GG} {m : Mem} (hP : BP m 0) (hB : BS m 0 0) (hT : m 0 0 0 ≤ 9999) (hh0 : 0 ≤ m 36 0 0 ∧ m 36 0 0 ≤ 8) (hh1 : 0 ≤ m 36 0 1 ∧ m 36 0 1 < 8) {a0 : Int} (ha0 : inI a0) (h0 : 0 ≤ a0 ∧ a0 ≤ 1) (hi : inI (m 40 0 a0)) (hz : m 40 0 a0 ≠ 0) : Ct G MX7_restoreSnapshot (rmD 9) [rf G 38 0, .int (iI a0)] (hp (m)) (.inl (some (.int (iI (m 0 (2 + a0.toNat) 0))))) (hp (up3 (cpS (cpP m (1 + a0.toNat) 0) (2 + a0.toNat) 0) 36 0 0 0)) := by
  refine x_entry (by decide +kernel) mwX7_restoreSnapshot rfl (Nat.le_of_ble_eq_true rfl) ?_
  show X G MX7_restoreSnapshot (rmD 9) 0 [(0, rf G 38 0), (1, .int (iI a0))] [] (hp (m)) 0 0 (.inl (some (.int (iI (m 0 (2 + a0.toNat) 0))))) (hp (up3 (cpS (cpP m (1 + a0.toNat) 0) (2 + a0.toNat) 0) 36 0 0 0))
  have n8 := hP.2.2.1
  have n4 := hP.2.2.2.1
  have n12 := hP.2.2.2.2.2.1
  have nc8 := hP.2.2.2.2.2.2.1
  have tb := hB.1
  have nt16 := hB.2.2.2.1.1
  have nl16 := hB.2.2.2.2.1.1
  refine x_iload_n (pc := 0) dX7_restoreSnapshot_0 1 rfl ?_
  refine x_iconst (pc := 1) dX7_restoreSnapshot_1 ?_
  refine x_iconst (pc := 2) dX7_restoreSnapshot_2 ?_
  refine x_callS (pc := 3) _ dX7_restoreSnapshot_3 (ct_ckR ha0 (by unfold inI; omega) (by unfold inI; omega) h0) lkX7_80 rfl (by decide) (Nat.le_of_ble_eq_true rfl) rfl ?_
  refine x_aload_n (pc := 6) dX7_restoreSnapshot_6 0 rfl ?_
  refine y_getR (pc := 7) dX7_restoreSnapshot_7 flX7_46 rfl rfl rfl (by decide) ?_
  refine x_iload_n (pc := 10) dX7_restoreSnapshot_10 1 rfl ?_
  refine y_zald (pc := 11) dX7_restoreSnapshot_11 rfl (by decide) (by omega) ?_
  refine x_if_ne (pc := 12) 17 dX7_restoreSnapshot_12 (by decide) hi (fun c_12 => ?_) (fun c_12 => absurd c_12 hz)
  refine x_aload_n (pc := 17) dX7_restoreSnapshot_17 0 rfl ?_
  refine y_getR (pc := 18) dX7_restoreSnapshot_18 flX7_15 rfl rfl rfl (by decide) ?_
  refine x_aload_n (pc := 21) dX7_restoreSnapshot_21 0 rfl ?_
  refine y_getR (pc := 22) dX7_restoreSnapshot_22 flX7_42 rfl rfl rfl (by decide) ?_
  refine x_iload_n (pc := 25) dX7_restoreSnapshot_25 1 rfl ?_
  refine y_aald (pc := 26) (tag := 1) dX7_restoreSnapshot_26 rfl rfl (by decide) (by omega) rfl ?_
  refine x_callV (pc := 27) _ dX7_restoreSnapshot_27 (ct_World_copyFrom (a := 2 + a0.toNat) (b := 0) (by omega) (by decide) (by omega) (show 2 + a0.toNat - 1 ≠ 0 by omega)) lkX7_67 rfl rfl rfl rfl (mem_dom0 (by decide) (by decide)) (by decide) (Nat.le_of_ble_eq_true rfl) rfl ?_
  refine x_nil (m' := cpS (cpP m (1 + a0.toNat) 0) (2 + a0.toNat) 0) (by show cpS (cpP m (2 + a0.toNat - 1) _) _ _ = _; rw [show 2 + a0.toNat - 1 = 1 + a0.toNat by omega]; rfl) ?_
  refine x_aload_n (pc := 30) dX7_restoreSnapshot_30 0 rfl ?_
  refine y_getR (pc := 31) dX7_restoreSnapshot_31 flX7_38 rfl rfl rfl (by decide) ?_
  refine x_callV (pc := 34) _ dX7_restoreSnapshot_34 (ct_Hclear) lkX7_71 rfl rfl rfl rfl (mem_dom0 (by decide) (by decide)) (by decide) (Nat.le_of_ble_eq_true rfl) rfl ?_
  refine x_aload_n (pc := 37) dX7_restoreSnapshot_37 0 rfl ?_
  refine y_getR (pc := 38) dX7_restoreSnapshot_38 flX7_15 rfl rfl rfl (by decide) ?_
  refine y_getR (pc := 41) (b := 0) dX7_restoreSnapshot_41 flX7_93 rfl rfl rfl (by decide) ?_
  refine y_getI (pc := 44) 0 dX7_restoreSnapshot_44 flX7_233 rfl rfl rfl (by decide) ?_
  exact y_iret (pc := 47) dX7_restoreSnapshot_47 rfl (by rw [up3_ne (by decide), cpS_at (by decide), cpP_k (by decide)]) rfl

theorem P_loadStatement {G : GG} {m : Mem} (hP : BP m 0) (hB : BS m 0 0) (hT : m 0 0 0 ≤ 9999) (hh0 : 0 ≤ m 36 0 0 ∧ m 36 0 0 ≤ 8) (hh1 : 0 ≤ m 36 0 1 ∧ m 36 0 1 < 8)   (hi : inI (m 34 0 1)) : Ct G MX7_loadStatement (rmD 9) [rf G 38 0] (hp (m)) (.inl (some (.int (iI (if m 34 0 1 = 0 then -1 else m 34 0 3))))) (hp (m)) := by
  refine x_entry (by decide +kernel) mwX7_loadStatement rfl (Nat.le_of_ble_eq_true rfl) ?_
  show X G MX7_loadStatement (rmD 9) 0 [(0, rf G 38 0)] [] (hp (m)) 0 0 (.inl (some (.int (iI (if m 34 0 1 = 0 then -1 else m 34 0 3))))) (hp (m))
  have n8 := hP.2.2.1
  have n4 := hP.2.2.2.1
  have n12 := hP.2.2.2.2.2.1
  have nc8 := hP.2.2.2.2.2.2.1
  have tb := hB.1
  have nt16 := hB.2.2.2.1.1
  have nl16 := hB.2.2.2.2.1.1
  refine x_aload_n (pc := 0) dX7_loadStatement_0 0 rfl ?_
  refine y_getR (pc := 1) dX7_loadStatement_1 flX7_31 rfl rfl rfl (by decide) ?_
  refine y_getI (pc := 4) 1 dX7_loadStatement_4 flX7_57 rfl rfl rfl (by decide) ?_
  refine x_if_ne (pc := 7) 14 dX7_loadStatement_7 (by decide) hi (fun c_7 => ?_) (fun c_7 => ?_)
  · refine x_aload_n (pc := 14) dX7_loadStatement_14 0 rfl ?_
    refine y_getR (pc := 15) dX7_loadStatement_15 flX7_31 rfl rfl rfl (by decide) ?_
    refine y_getI (pc := 18) 3 dX7_loadStatement_18 flX7_77 rfl rfl rfl (by decide) ?_
    exact y_iret (pc := 21) dX7_loadStatement_21 rfl (by rw [if_neg c_7]) rfl
  · refine x_iconst (pc := 10) dX7_loadStatement_10 ?_
    refine x_goto (pc := 11) 21 dX7_loadStatement_11 (by decide) ?_
    exact y_iret (pc := 21) dX7_loadStatement_21 rfl (by rw [if_pos c_7]) rfl
