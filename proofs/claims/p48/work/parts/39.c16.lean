def aboC (m : Mem) (q : Int) : Int := m 3 0 q - m 5 0 q
def lowF (m : Mem) (b i : Int) : Nat → Int
  | 0 => b
  | n + 1 => lowF m (if b = -1 ∨ aboC m i < aboC m b then i else b) (i + 1) n
def higF (m : Mem) (b i : Int) : Nat → Int
  | 0 => b
  | n + 1 => higF m (if b = -1 ∨ aboC m b < aboC m i then i else b) (i + 1) n
theorem aboC_b {m : Mem} (hP : BP m 0) (hB : BS m 0 0) {q : Int} (h0 : 0 ≤ q) (h1 : q < m 22 0 2) : -100000 ≤ aboC m q ∧ aboC m q ≤ 1000000 := by
  have h := hB.2.1 q h0 h1
  have h3 := h.1
  have h5 := h.2.2
  have p := (BS_pf hP hB h0 h1).2.2.2.2
  unfold aboC
  omega
theorem lp_neediest {G : GG} {m : Mem} (hP : BP m 0) (hB : BS m 0 0) (z9 : Int) : ∀ (n : Nat) (i b : Int), i + n = m 22 0 2 → 0 ≤ i → (b = -1 ∨ 0 ≤ b ∧ b < i) → z9 = lowF m b i n → X G MX7_neediest (rmD 9) 4 [(2, .int (iI i)), (0, rf G 38 0), (1, .int (iI b))] [] (hp (m)) 0 0 (.inl (some (.int (iI (z9))))) (hp (m)) := by
  intro n
  induction n with
  | zero =>
    intro i b hi h0 hb h9
    have n8 := hP.2.2.1
    refine x_iload_n (pc := 4) dX7_neediest_4 0 rfl ?_
    refine x_aload_n (pc := 5) dX7_neediest_5 1 rfl ?_
    refine y_getR (pc := 6) dX7_neediest_6 flX7_15 rfl rfl rfl (by decide) ?_
    refine y_getR (pc := 9) (b := 0) dX7_neediest_9 flX7_21 rfl rfl rfl (by decide) ?_
    refine y_getI (pc := 12) 2 dX7_neediest_12 flX7_74 rfl rfl rfl (by decide) ?_
    refine x_icmp_ge (pc := 15) 56 dX7_neediest_15 (by decide) (by unfold inI; omega) (by unfold inI; omega) (fun c_15 => ?_) (fun c_15 => (by exfalso; omega))
    refine x_iload_n (pc := 56) dX7_neediest_56 2 rfl ?_
    exact y_iret (pc := 57) dX7_neediest_57 rfl (by rw [h9]; rfl) rfl
  | succ n ih =>
    intro i b hi h0 hb h9
    have n8 := hP.2.2.1
    have hi2 := aboC_b hP hB h0 (show i < m 22 0 2 by omega)
    refine x_iload_n (pc := 4) dX7_neediest_4 0 rfl ?_
    refine x_aload_n (pc := 5) dX7_neediest_5 1 rfl ?_
    refine y_getR (pc := 6) dX7_neediest_6 flX7_15 rfl rfl rfl (by decide) ?_
    refine y_getR (pc := 9) (b := 0) dX7_neediest_9 flX7_21 rfl rfl rfl (by decide) ?_
    refine y_getI (pc := 12) 2 dX7_neediest_12 flX7_74 rfl rfl rfl (by decide) ?_
    refine x_icmp_ge (pc := 15) 56 dX7_neediest_15 (by decide) (by unfold inI; omega) (by unfold inI; omega) (fun c_15 => (by exfalso; omega)) (fun c_15 => ?_)
    refine x_iload_n (pc := 18) dX7_neediest_18 2 rfl ?_
    refine x_iconst (pc := 19) dX7_neediest_19 ?_
    refine x_icmp_eq (pc := 20) 48 dX7_neediest_20 (by decide) (by unfold inI; omega) (by unfold inI; omega) (fun c_20 => ?_) (fun c_20 => ?_)
    · refine x_iload_n (pc := 48) dX7_neediest_48 0 rfl ?_
      refine x_istore_n (pc := 49) (lv' := [(1, _), (2, _), (0, _)]) dX7_neediest_49 rfl (by decide) rfl ?_
      refine x_iinc (pc := 50) (lv' := [(2, _), (1, _), (0, _)]) dX7_neediest_50 1 rfl (by decide) rfl ?_
      refine x_goto (pc := 53) 4 dX7_neediest_53 (by decide) ?_
      exact x_lv [0, 2, 1] rfl (ih (i + 1) i (by omega) (by omega) (by omega) (by rw [h9]; show lowF m (if _ then _ else _) _ _ = _; rw [if_pos (Or.inl c_20)]))
    · refine x_aload_n (pc := 23) dX7_neediest_23 1 rfl ?_
      refine y_getR (pc := 24) dX7_neediest_24 flX7_15 rfl rfl rfl (by decide) ?_
      refine y_getR (pc := 27) (b := 0) dX7_neediest_27 flX7_93 rfl rfl rfl (by decide) ?_
      refine x_iload_n (pc := 30) dX7_neediest_30 0 rfl ?_
      refine x_callV (pc := 31) _ dX7_neediest_31 (ct_aboveReserve (s := 0) (by decide) i (by omega)) lkX7_310 rfl rfl rfl rfl (mem_dom0 (by decide) (by decide)) (by decide) (Nat.le_of_ble_eq_true rfl) rfl ?_
      refine x_top (v' := .int (iI (aboC m i))) rfl ?_
      refine x_aload_n (pc := 34) dX7_neediest_34 1 rfl ?_
      refine y_getR (pc := 35) dX7_neediest_35 flX7_15 rfl rfl rfl (by decide) ?_
      refine y_getR (pc := 38) (b := 0) dX7_neediest_38 flX7_93 rfl rfl rfl (by decide) ?_
      refine x_iload_n (pc := 41) dX7_neediest_41 2 rfl ?_
      refine x_callV (pc := 42) _ dX7_neediest_42 (ct_aboveReserve (s := 0) (by decide) b (by omega)) lkX7_310 rfl rfl rfl rfl (mem_dom0 (by decide) (by decide)) (by decide) (Nat.le_of_ble_eq_true rfl) rfl ?_
      refine x_top (v' := .int (iI (aboC m b))) rfl ?_
      have hb2 := aboC_b hP hB (q := b) (by omega) (by omega)
      refine x_icmp_ge (pc := 45) 50 dX7_neediest_45 (by decide) (by unfold inI; omega) (by unfold inI; omega) (fun c_45 => ?_) (fun c_45 => ?_)
      · refine x_iinc (pc := 50) (lv' := [(2, _), (0, _), (1, _)]) dX7_neediest_50 0 rfl (by decide) rfl ?_
        refine x_goto (pc := 53) 4 dX7_neediest_53 (by decide) ?_
        exact x_lv [0, 1, 2] rfl (ih (i + 1) b (by omega) (by omega) (by omega) (by rw [h9]; show lowF m (if _ then _ else _) _ _ = _; rw [if_neg (by omega)]))
      · refine x_iload_n (pc := 48) dX7_neediest_48 0 rfl ?_
        refine x_istore_n (pc := 49) (lv' := [(1, _), (2, _), (0, _)]) dX7_neediest_49 rfl (by decide) rfl ?_
        refine x_iinc (pc := 50) (lv' := [(2, _), (1, _), (0, _)]) dX7_neediest_50 1 rfl (by decide) rfl ?_
        refine x_goto (pc := 53) 4 dX7_neediest_53 (by decide) ?_
        exact x_lv [0, 2, 1] rfl (ih (i + 1) i (by omega) (by omega) (by omega) (by rw [h9]; show lowF m (if _ then _ else _) _ _ = _; rw [if_pos (Or.inr (by omega))]))
theorem P_neediest {G : GG} {m : Mem} (hP : BP m 0) (hB : BS m 0 0) (hT : m 0 0 0 ≤ 9999) (hh0 : 0 ≤ m 36 0 0 ∧ m 36 0 0 ≤ 8) (hh1 : 0 ≤ m 36 0 1 ∧ m 36 0 1 < 8)    : Ct G MX7_neediest (rmD 9) [rf G 38 0] (hp (m)) (.inl (some (.int (iI (lowF m (-1) 0 (m 22 0 2).toNat))))) (hp (m)) := by
  refine x_entry (by decide +kernel) mwX7_neediest rfl (Nat.le_of_ble_eq_true rfl) ?_
  show X G MX7_neediest (rmD 9) 0 [(0, rf G 38 0)] [] (hp (m)) 0 0 (.inl (some (.int (iI (lowF m (-1) 0 (m 22 0 2).toNat))))) (hp (m))
  have n8 := hP.2.2.1
  have n4 := hP.2.2.2.1
  have n12 := hP.2.2.2.2.2.1
  have nc8 := hP.2.2.2.2.2.2.1
  have tb := hB.1
  have nt16 := hB.2.2.2.1.1
  have nl16 := hB.2.2.2.2.1.1
  refine x_iconst (pc := 0) dX7_neediest_0 ?_
  refine x_istore_n (pc := 1) (lv' := [(1, _), (0, _)]) dX7_neediest_1 rfl (by decide) rfl ?_
  refine x_iconst (pc := 2) dX7_neediest_2 ?_
  refine x_istore_n (pc := 3) (lv' := [(2, _), (1, _), (0, _)]) dX7_neediest_3 rfl (by decide) rfl ?_
  exact x_lv [0, 2, 1] rfl (lp_neediest hP hB _ (m 22 0 2).toNat 0 (-1) (by omega) (by omega) (by omega) rfl)
theorem lp_richest {G : GG} {m : Mem} (hP : BP m 0) (hB : BS m 0 0) (z9 : Int) : ∀ (n : Nat) (i b : Int), i + n = m 22 0 2 → 0 ≤ i → (b = -1 ∨ 0 ≤ b ∧ b < i) → z9 = higF m b i n → X G MX7_richest (rmD 9) 4 [(2, .int (iI i)), (0, rf G 38 0), (1, .int (iI b))] [] (hp (m)) 0 0 (.inl (some (.int (iI (z9))))) (hp (m)) := by
  intro n
  induction n with
  | zero =>
    intro i b hi h0 hb h9
    have n8 := hP.2.2.1
    refine x_iload_n (pc := 4) dX7_richest_4 0 rfl ?_
    refine x_aload_n (pc := 5) dX7_richest_5 1 rfl ?_
    refine y_getR (pc := 6) dX7_richest_6 flX7_15 rfl rfl rfl (by decide) ?_
    refine y_getR (pc := 9) (b := 0) dX7_richest_9 flX7_21 rfl rfl rfl (by decide) ?_
    refine y_getI (pc := 12) 2 dX7_richest_12 flX7_74 rfl rfl rfl (by decide) ?_
    refine x_icmp_ge (pc := 15) 56 dX7_richest_15 (by decide) (by unfold inI; omega) (by unfold inI; omega) (fun c_15 => ?_) (fun c_15 => (by exfalso; omega))
    refine x_iload_n (pc := 56) dX7_richest_56 2 rfl ?_
    exact y_iret (pc := 57) dX7_richest_57 rfl (by rw [h9]; rfl) rfl
  | succ n ih =>
    intro i b hi h0 hb h9
    have n8 := hP.2.2.1
    have hi2 := aboC_b hP hB h0 (show i < m 22 0 2 by omega)
    refine x_iload_n (pc := 4) dX7_richest_4 0 rfl ?_
    refine x_aload_n (pc := 5) dX7_richest_5 1 rfl ?_
    refine y_getR (pc := 6) dX7_richest_6 flX7_15 rfl rfl rfl (by decide) ?_
    refine y_getR (pc := 9) (b := 0) dX7_richest_9 flX7_21 rfl rfl rfl (by decide) ?_
    refine y_getI (pc := 12) 2 dX7_richest_12 flX7_74 rfl rfl rfl (by decide) ?_
    refine x_icmp_ge (pc := 15) 56 dX7_richest_15 (by decide) (by unfold inI; omega) (by unfold inI; omega) (fun c_15 => (by exfalso; omega)) (fun c_15 => ?_)
    refine x_iload_n (pc := 18) dX7_richest_18 2 rfl ?_
    refine x_iconst (pc := 19) dX7_richest_19 ?_
    refine x_icmp_eq (pc := 20) 48 dX7_richest_20 (by decide) (by unfold inI; omega) (by unfold inI; omega) (fun c_20 => ?_) (fun c_20 => ?_)
    · refine x_iload_n (pc := 48) dX7_richest_48 0 rfl ?_
      refine x_istore_n (pc := 49) (lv' := [(1, _), (2, _), (0, _)]) dX7_richest_49 rfl (by decide) rfl ?_
      refine x_iinc (pc := 50) (lv' := [(2, _), (1, _), (0, _)]) dX7_richest_50 1 rfl (by decide) rfl ?_
      refine x_goto (pc := 53) 4 dX7_richest_53 (by decide) ?_
      exact x_lv [0, 2, 1] rfl (ih (i + 1) i (by omega) (by omega) (by omega) (by rw [h9]; show higF m (if _ then _ else _) _ _ = _; rw [if_pos (Or.inl c_20)]))
    · refine x_aload_n (pc := 23) dX7_richest_23 1 rfl ?_
      refine y_getR (pc := 24) dX7_richest_24 flX7_15 rfl rfl rfl (by decide) ?_
      refine y_getR (pc := 27) (b := 0) dX7_richest_27 flX7_93 rfl rfl rfl (by decide) ?_
      refine x_iload_n (pc := 30) dX7_richest_30 0 rfl ?_
      refine x_callV (pc := 31) _ dX7_richest_31 (ct_aboveReserve (s := 0) (by decide) i (by omega)) lkX7_310 rfl rfl rfl rfl (mem_dom0 (by decide) (by decide)) (by decide) (Nat.le_of_ble_eq_true rfl) rfl ?_
      refine x_top (v' := .int (iI (aboC m i))) rfl ?_
      refine x_aload_n (pc := 34) dX7_richest_34 1 rfl ?_
      refine y_getR (pc := 35) dX7_richest_35 flX7_15 rfl rfl rfl (by decide) ?_
      refine y_getR (pc := 38) (b := 0) dX7_richest_38 flX7_93 rfl rfl rfl (by decide) ?_
      refine x_iload_n (pc := 41) dX7_richest_41 2 rfl ?_
      refine x_callV (pc := 42) _ dX7_richest_42 (ct_aboveReserve (s := 0) (by decide) b (by omega)) lkX7_310 rfl rfl rfl rfl (mem_dom0 (by decide) (by decide)) (by decide) (Nat.le_of_ble_eq_true rfl) rfl ?_
      refine x_top (v' := .int (iI (aboC m b))) rfl ?_
      have hb2 := aboC_b hP hB (q := b) (by omega) (by omega)
      refine x_icmp_le (pc := 45) 50 dX7_richest_45 (by decide) (by unfold inI; omega) (by unfold inI; omega) (fun c_45 => ?_) (fun c_45 => ?_)
      · refine x_iinc (pc := 50) (lv' := [(2, _), (0, _), (1, _)]) dX7_richest_50 0 rfl (by decide) rfl ?_
        refine x_goto (pc := 53) 4 dX7_richest_53 (by decide) ?_
        exact x_lv [0, 1, 2] rfl (ih (i + 1) b (by omega) (by omega) (by omega) (by rw [h9]; show higF m (if _ then _ else _) _ _ = _; rw [if_neg (by omega)]))
      · refine x_iload_n (pc := 48) dX7_richest_48 0 rfl ?_
        refine x_istore_n (pc := 49) (lv' := [(1, _), (2, _), (0, _)]) dX7_richest_49 rfl (by decide) rfl ?_
        refine x_iinc (pc := 50) (lv' := [(2, _), (1, _), (0, _)]) dX7_richest_50 1 rfl (by decide) rfl ?_
        refine x_goto (pc := 53) 4 dX7_richest_53 (by decide) ?_
        exact x_lv [0, 2, 1] rfl (ih (i + 1) i (by omega) (by omega) (by omega) (by rw [h9]; show higF m (if _ then _ else _) _ _ = _; rw [if_pos (Or.inr (by omega))]))
theorem P_richest {G : GG} {m : Mem} (hP : BP m 0) (hB : BS m 0 0) (hT : m 0 0 0 ≤ 9999) (hh0 : 0 ≤ m 36 0 0 ∧ m 36 0 0 ≤ 8) (hh1 : 0 ≤ m 36 0 1 ∧ m 36 0 1 < 8)    : Ct G MX7_richest (rmD 9) [rf G 38 0] (hp (m)) (.inl (some (.int (iI (higF m (-1) 0 (m 22 0 2).toNat))))) (hp (m)) := by
  refine x_entry (by decide +kernel) mwX7_richest rfl (Nat.le_of_ble_eq_true rfl) ?_
  show X G MX7_richest (rmD 9) 0 [(0, rf G 38 0)] [] (hp (m)) 0 0 (.inl (some (.int (iI (higF m (-1) 0 (m 22 0 2).toNat))))) (hp (m))
  have n8 := hP.2.2.1
  have n4 := hP.2.2.2.1
  have n12 := hP.2.2.2.2.2.1
  have nc8 := hP.2.2.2.2.2.2.1
  have tb := hB.1
  have nt16 := hB.2.2.2.1.1
  have nl16 := hB.2.2.2.2.1.1
  refine x_iconst (pc := 0) dX7_richest_0 ?_
  refine x_istore_n (pc := 1) (lv' := [(1, _), (0, _)]) dX7_richest_1 rfl (by decide) rfl ?_
  refine x_iconst (pc := 2) dX7_richest_2 ?_
  refine x_istore_n (pc := 3) (lv' := [(2, _), (1, _), (0, _)]) dX7_richest_3 rfl (by decide) rfl ?_
  exact x_lv [0, 2, 1] rfl (lp_richest hP hB _ (m 22 0 2).toNat 0 (-1) (by omega) (by omega) (by omega) rfl)
def chF (m : Mem) (q x b cost i : Int) : Nat → Int
  | 0 => b
  | n + 1 => if m 29 0 i = q ∧ hinC m 0 0 i x = 0 ∧ (b = -1 ∨ cosC m 0 0 i x < cost) then chF m q x i (cosC m 0 0 i x) (i + 1) n else chF m q x b cost (i + 1) n
theorem cosC_b {m : Mem} (hP : BP m 0) (hB : BS m 0 0) {c x : Int} (hc : 0 ≤ c ∧ c < m 22 0 6) (hx : 0 ≤ x ∧ x ≤ 1000000) : 0 ≤ cosC m 0 0 c x ∧ cosC m 0 0 c x ≤ 1500000000 := by
  have kk := hP.2.2.2.2.2.2.2.2.2.2.2 c hc.1 hc.2
  have ha := kk.1
  have k6 := kk.2.2.2.2.2.2
  have pf := BS_pf hP hB ha.1 ha.2
  have qf := BP_qf hP ha.1 ha.2
  have c6 := (hB.2.2.1 _ k6.1 k6.2).1
  have wb := wearC_b pf qf hx
  have ib := intC_b (m := m) (p := 0) (x := min 100000000 (wearC m 0 0 (m 28 0 c) x)) (by omega) hP.2.1
  have cm0 : 0 ≤ x * m 6 0 (m 27 0 (m 28 0 c * 8 + m 29 0 c)) := Int.mul_nonneg hx.1 c6.1
  have cm1 : x * m 6 0 (m 27 0 (m 28 0 c * 8 + m 29 0 c)) ≤ 1000000 * 900 := Int.mul_le_mul hx.2 c6.2 c6.1 (by decide)
  unfold cosC
  split <;> omega
