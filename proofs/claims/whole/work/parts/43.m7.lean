/-- 430 numbers copied from block a of part k to block b of part k' -/
def cpX (m : Mem) (k k' : Nat) (a b n : Int) : Mem := fun p i j => if p = k' ∧ i = 0 ∧ 430 * b ≤ j ∧ j < 430 * b + n then m k 0 (430 * a + (j - 430 * b)) else m p i j
theorem cpX_0 {m : Mem} {k k' : Nat} {a b : Int} : cpX m k k' a b 0 = m := by
  funext p i j
  unfold cpX
  rw [if_neg (by omega)]
theorem cpX_s {m : Mem} {k k' : Nat} {a b n : Int} (hk : k ≠ k') (hn : 0 ≤ n) : up3 (cpX m k k' a b n) k' 0 (430 * b + n) (cpX m k k' a b n k 0 (430 * a + n)) = cpX m k k' a b (n + 1) := by
  have e : cpX m k k' a b n k 0 (430 * a + n) = m k 0 (430 * a + n) := by
    unfold cpX
    rw [if_neg (fun z => hk z.1)]
  funext p i j
  rw [e, up3_apply]
  unfold cpX
  by_cases h : p = k' ∧ i = 0 ∧ j = 430 * b + n
  · rw [if_pos h, if_pos ⟨h.1, h.2.1, by omega, by omega⟩, h.2.2]
    congr 1
    omega
  · rw [if_neg h]
    by_cases h2 : p = k' ∧ i = 0 ∧ 430 * b ≤ j ∧ j < 430 * b + n
    · rw [if_pos h2, if_pos ⟨h2.1, h2.2.1, by omega, by omega⟩]
    · rw [if_neg h2, if_neg (fun z => h2 ⟨z.1, z.2.1, z.2.2.1, by
        have : j ≠ 430 * b + n := fun e => h ⟨z.1, z.2.1, e⟩
        omega⟩)]
theorem cpX_k {m : Mem} {k k' p : Nat} {a b n : Int} (h : p ≠ k') : cpX m k k' a b n p = m p := by
  funext i j
  unfold cpX
  rw [if_neg (fun z => h z.1)]
/-- the oldest of the past falls out -/
def shX (m : Mem) (n : Int) : Mem := fun p i j => if p = 45 ∧ i = 0 ∧ 0 ≤ j ∧ j < n then m 45 0 (j + 430) else m p i j
theorem shX_0 {m : Mem} : shX m 0 = m := by
  funext p i j
  unfold shX
  rw [if_neg (by omega)]
theorem shX_s {m : Mem} {n : Int} (hn : 0 ≤ n) : up3 (shX m n) 45 0 n (shX m n 45 0 (n + 430)) = shX m (n + 1) := by
  have e : shX m n 45 0 (n + 430) = m 45 0 (n + 430) := by
    unfold shX
    rw [if_neg (by omega)]
  funext p i j
  rw [e, up3_apply]
  unfold shX
  by_cases h : p = 45 ∧ i = 0 ∧ j = n
  · rw [if_pos h, if_pos ⟨h.1, h.2.1, by omega, by omega⟩, h.2.2]
  · rw [if_neg h]
    by_cases h2 : p = 45 ∧ i = 0 ∧ 0 ≤ j ∧ j < n
    · rw [if_pos h2, if_pos ⟨h2.1, h2.2.1, by omega, by omega⟩]
    · rw [if_neg h2, if_neg (fun z => h2 ⟨z.1, z.2.1, z.2.2.1, by
        have : j ≠ n := fun e => h ⟨z.1, z.2.1, e⟩
        omega⟩)]
theorem shX_k {m : Mem} {p : Nat} {n : Int} (h : p ≠ 45) : shX m n p = m p := by
  funext i j
  unfold shX
  rw [if_neg (fun z => h z.1)]

theorem lp_cp42_44 {G : GG} {m : Mem} (a b : Int) (ha : 0 ≤ a ∧ 430 * a + 430 ≤ 430) (hb : 0 ≤ b ∧ 430 * b + 430 ≤ 430) : ∀ (n : Nat) (z : Int), 0 ≤ z → z + n = 430 → X G MX8_copies (rmD 0) 3 [(4, .int (iI z)), (0, rf G 42 0), (1, .int (iI a)), (2, rf G 44 0), (3, .int (iI b))] [] (hp (cpX m 42 44 a b z)) 0 0 (.inl none) (hp (cpX m 42 44 a b 430)) := by
  intro n
  induction n with
  | zero =>
    intro z h0 h1
    refine x_iload (pc := 3) dX8_copies_3 0 rfl ?_
    refine x_sipush (pc := 5) (z := 430) dX8_copies_5 (by decide) ?_
    refine x_icmp_ge (pc := 8) 37 dX8_copies_8 (by decide) (by unfold inI; omega) (by unfold inI; omega) (fun c_8 => ?_) (fun c_8 => (by exfalso; omega))
    exact y_vret (pc := 37) dX8_copies_37 rfl (by rw [show z = 430 by omega])
  | succ n ih =>
    intro z h0 h1
    refine x_iload (pc := 3) dX8_copies_3 0 rfl ?_
    refine x_sipush (pc := 5) (z := 430) dX8_copies_5 (by decide) ?_
    refine x_icmp_ge (pc := 8) 37 dX8_copies_8 (by decide) (by unfold inI; omega) (by unfold inI; omega) (fun c_8 => (by exfalso; omega)) (fun c_8 => ?_)
    refine x_aload_n (pc := 11) dX8_copies_11 3 rfl ?_
    refine x_sipush (pc := 12) (z := 430) dX8_copies_12 (by decide) ?_
    refine x_iload_n (pc := 15) dX8_copies_15 4 rfl ?_
    refine x_imul (pc := 16) dX8_copies_16 ?_
    refine x_iload (pc := 17) dX8_copies_17 0 rfl ?_
    refine x_iadd (pc := 19) dX8_copies_19 ?_
    refine x_aload_n (pc := 20) dX8_copies_20 1 rfl ?_
    refine x_sipush (pc := 21) (z := 430) dX8_copies_21 (by decide) ?_
    refine x_iload_n (pc := 24) dX8_copies_24 2 rfl ?_
    refine x_imul (pc := 25) dX8_copies_25 ?_
    refine x_iload (pc := 26) dX8_copies_26 0 rfl ?_
    refine x_iadd (pc := 28) dX8_copies_28 ?_
    refine y_iald (pc := 29) dX8_copies_29 rfl (by decide) (by omega) ?_
    refine y_iast (pc := 30) dX8_copies_30 rfl (by decide) (by omega) ?_
    refine x_nil (m' := cpX m 42 44 a b (z + 1)) (cpX_s (by decide) h0) ?_
    refine x_iinc (pc := 31) (lv' := [(4, _), (0, _), (1, _), (2, _), (3, _)]) dX8_copies_31 0 rfl (by decide) rfl ?_
    refine x_goto (pc := 34) 3 dX8_copies_34 (by decide) ?_
    exact x_lv [0, 1, 2, 3, 4] rfl (ih (z + 1) (by omega) (by omega))

theorem mq_cp42_44 {G : GG} {m : Mem} (a b : Int) (ha : 0 ≤ a ∧ 430 * a + 430 ≤ 430) (hb : 0 ≤ b ∧ 430 * b + 430 ≤ 430) : Ct G MX8_copies (rmD 0) [rf G 42 0, .int (iI a), rf G 44 0, .int (iI b)] (hp (m)) (.inl none) (hp (cpX m 42 44 a b 430)) := by
  refine x_entry (by decide +kernel) mwX8_copies rfl (Nat.le_of_ble_eq_true rfl) ?_
  show X G MX8_copies (rmD 0) 0 [(0, rf G 42 0), (1, .int (iI a)), (2, rf G 44 0), (3, .int (iI b))] [] (hp (m)) 0 0 (.inl none) (hp (cpX m 42 44 a b 430))
  refine x_iconst (pc := 0) dX8_copies_0 ?_
  refine x_istore (pc := 1) (lv' := [(4, _), (0, _), (1, _), (2, _), (3, _)]) dX8_copies_1 (by decide) rfl ?_
  refine x_nil (m' := cpX m 42 44 a b 0) cpX_0.symm ?_
  exact x_lv [0, 1, 2, 3, 4] rfl (lp_cp42_44 a b ha hb 430 0 (by omega) (by omega))

theorem lp_cp44_42 {G : GG} {m : Mem} (a b : Int) (ha : 0 ≤ a ∧ 430 * a + 430 ≤ 430) (hb : 0 ≤ b ∧ 430 * b + 430 ≤ 430) : ∀ (n : Nat) (z : Int), 0 ≤ z → z + n = 430 → X G MX8_copies (rmD 0) 3 [(4, .int (iI z)), (0, rf G 44 0), (1, .int (iI a)), (2, rf G 42 0), (3, .int (iI b))] [] (hp (cpX m 44 42 a b z)) 0 0 (.inl none) (hp (cpX m 44 42 a b 430)) := by
  intro n
  induction n with
  | zero =>
    intro z h0 h1
    refine x_iload (pc := 3) dX8_copies_3 0 rfl ?_
    refine x_sipush (pc := 5) (z := 430) dX8_copies_5 (by decide) ?_
    refine x_icmp_ge (pc := 8) 37 dX8_copies_8 (by decide) (by unfold inI; omega) (by unfold inI; omega) (fun c_8 => ?_) (fun c_8 => (by exfalso; omega))
    exact y_vret (pc := 37) dX8_copies_37 rfl (by rw [show z = 430 by omega])
  | succ n ih =>
    intro z h0 h1
    refine x_iload (pc := 3) dX8_copies_3 0 rfl ?_
    refine x_sipush (pc := 5) (z := 430) dX8_copies_5 (by decide) ?_
    refine x_icmp_ge (pc := 8) 37 dX8_copies_8 (by decide) (by unfold inI; omega) (by unfold inI; omega) (fun c_8 => (by exfalso; omega)) (fun c_8 => ?_)
    refine x_aload_n (pc := 11) dX8_copies_11 3 rfl ?_
    refine x_sipush (pc := 12) (z := 430) dX8_copies_12 (by decide) ?_
    refine x_iload_n (pc := 15) dX8_copies_15 4 rfl ?_
    refine x_imul (pc := 16) dX8_copies_16 ?_
    refine x_iload (pc := 17) dX8_copies_17 0 rfl ?_
    refine x_iadd (pc := 19) dX8_copies_19 ?_
    refine x_aload_n (pc := 20) dX8_copies_20 1 rfl ?_
    refine x_sipush (pc := 21) (z := 430) dX8_copies_21 (by decide) ?_
    refine x_iload_n (pc := 24) dX8_copies_24 2 rfl ?_
    refine x_imul (pc := 25) dX8_copies_25 ?_
    refine x_iload (pc := 26) dX8_copies_26 0 rfl ?_
    refine x_iadd (pc := 28) dX8_copies_28 ?_
    refine y_iald (pc := 29) dX8_copies_29 rfl (by decide) (by omega) ?_
    refine y_iast (pc := 30) dX8_copies_30 rfl (by decide) (by omega) ?_
    refine x_nil (m' := cpX m 44 42 a b (z + 1)) (cpX_s (by decide) h0) ?_
    refine x_iinc (pc := 31) (lv' := [(4, _), (0, _), (1, _), (2, _), (3, _)]) dX8_copies_31 0 rfl (by decide) rfl ?_
    refine x_goto (pc := 34) 3 dX8_copies_34 (by decide) ?_
    exact x_lv [0, 1, 2, 3, 4] rfl (ih (z + 1) (by omega) (by omega))

theorem mq_cp44_42 {G : GG} {m : Mem} (a b : Int) (ha : 0 ≤ a ∧ 430 * a + 430 ≤ 430) (hb : 0 ≤ b ∧ 430 * b + 430 ≤ 430) : Ct G MX8_copies (rmD 0) [rf G 44 0, .int (iI a), rf G 42 0, .int (iI b)] (hp (m)) (.inl none) (hp (cpX m 44 42 a b 430)) := by
  refine x_entry (by decide +kernel) mwX8_copies rfl (Nat.le_of_ble_eq_true rfl) ?_
  show X G MX8_copies (rmD 0) 0 [(0, rf G 44 0), (1, .int (iI a)), (2, rf G 42 0), (3, .int (iI b))] [] (hp (m)) 0 0 (.inl none) (hp (cpX m 44 42 a b 430))
  refine x_iconst (pc := 0) dX8_copies_0 ?_
  refine x_istore (pc := 1) (lv' := [(4, _), (0, _), (1, _), (2, _), (3, _)]) dX8_copies_1 (by decide) rfl ?_
  refine x_nil (m' := cpX m 44 42 a b 0) cpX_0.symm ?_
  exact x_lv [0, 1, 2, 3, 4] rfl (lp_cp44_42 a b ha hb 430 0 (by omega) (by omega))

theorem lp_cp42_45 {G : GG} {m : Mem} (a b : Int) (ha : 0 ≤ a ∧ 430 * a + 430 ≤ 430) (hb : 0 ≤ b ∧ 430 * b + 430 ≤ 3440) : ∀ (n : Nat) (z : Int), 0 ≤ z → z + n = 430 → X G MX8_copies (rmD 0) 3 [(4, .int (iI z)), (0, rf G 42 0), (1, .int (iI a)), (2, rf G 45 0), (3, .int (iI b))] [] (hp (cpX m 42 45 a b z)) 0 0 (.inl none) (hp (cpX m 42 45 a b 430)) := by
  intro n
  induction n with
  | zero =>
    intro z h0 h1
    refine x_iload (pc := 3) dX8_copies_3 0 rfl ?_
    refine x_sipush (pc := 5) (z := 430) dX8_copies_5 (by decide) ?_
    refine x_icmp_ge (pc := 8) 37 dX8_copies_8 (by decide) (by unfold inI; omega) (by unfold inI; omega) (fun c_8 => ?_) (fun c_8 => (by exfalso; omega))
    exact y_vret (pc := 37) dX8_copies_37 rfl (by rw [show z = 430 by omega])
  | succ n ih =>
    intro z h0 h1
    refine x_iload (pc := 3) dX8_copies_3 0 rfl ?_
    refine x_sipush (pc := 5) (z := 430) dX8_copies_5 (by decide) ?_
    refine x_icmp_ge (pc := 8) 37 dX8_copies_8 (by decide) (by unfold inI; omega) (by unfold inI; omega) (fun c_8 => (by exfalso; omega)) (fun c_8 => ?_)
    refine x_aload_n (pc := 11) dX8_copies_11 3 rfl ?_
    refine x_sipush (pc := 12) (z := 430) dX8_copies_12 (by decide) ?_
    refine x_iload_n (pc := 15) dX8_copies_15 4 rfl ?_
    refine x_imul (pc := 16) dX8_copies_16 ?_
    refine x_iload (pc := 17) dX8_copies_17 0 rfl ?_
    refine x_iadd (pc := 19) dX8_copies_19 ?_
    refine x_aload_n (pc := 20) dX8_copies_20 1 rfl ?_
    refine x_sipush (pc := 21) (z := 430) dX8_copies_21 (by decide) ?_
    refine x_iload_n (pc := 24) dX8_copies_24 2 rfl ?_
    refine x_imul (pc := 25) dX8_copies_25 ?_
    refine x_iload (pc := 26) dX8_copies_26 0 rfl ?_
    refine x_iadd (pc := 28) dX8_copies_28 ?_
    refine y_iald (pc := 29) dX8_copies_29 rfl (by decide) (by omega) ?_
    refine y_iast (pc := 30) dX8_copies_30 rfl (by decide) (by omega) ?_
    refine x_nil (m' := cpX m 42 45 a b (z + 1)) (cpX_s (by decide) h0) ?_
    refine x_iinc (pc := 31) (lv' := [(4, _), (0, _), (1, _), (2, _), (3, _)]) dX8_copies_31 0 rfl (by decide) rfl ?_
    refine x_goto (pc := 34) 3 dX8_copies_34 (by decide) ?_
    exact x_lv [0, 1, 2, 3, 4] rfl (ih (z + 1) (by omega) (by omega))

theorem mq_cp42_45 {G : GG} {m : Mem} (a b : Int) (ha : 0 ≤ a ∧ 430 * a + 430 ≤ 430) (hb : 0 ≤ b ∧ 430 * b + 430 ≤ 3440) : Ct G MX8_copies (rmD 0) [rf G 42 0, .int (iI a), rf G 45 0, .int (iI b)] (hp (m)) (.inl none) (hp (cpX m 42 45 a b 430)) := by
  refine x_entry (by decide +kernel) mwX8_copies rfl (Nat.le_of_ble_eq_true rfl) ?_
  show X G MX8_copies (rmD 0) 0 [(0, rf G 42 0), (1, .int (iI a)), (2, rf G 45 0), (3, .int (iI b))] [] (hp (m)) 0 0 (.inl none) (hp (cpX m 42 45 a b 430))
  refine x_iconst (pc := 0) dX8_copies_0 ?_
  refine x_istore (pc := 1) (lv' := [(4, _), (0, _), (1, _), (2, _), (3, _)]) dX8_copies_1 (by decide) rfl ?_
  refine x_nil (m' := cpX m 42 45 a b 0) cpX_0.symm ?_
  exact x_lv [0, 1, 2, 3, 4] rfl (lp_cp42_45 a b ha hb 430 0 (by omega) (by omega))

theorem lp_cp45_42 {G : GG} {m : Mem} (a b : Int) (ha : 0 ≤ a ∧ 430 * a + 430 ≤ 3440) (hb : 0 ≤ b ∧ 430 * b + 430 ≤ 430) : ∀ (n : Nat) (z : Int), 0 ≤ z → z + n = 430 → X G MX8_copies (rmD 0) 3 [(4, .int (iI z)), (0, rf G 45 0), (1, .int (iI a)), (2, rf G 42 0), (3, .int (iI b))] [] (hp (cpX m 45 42 a b z)) 0 0 (.inl none) (hp (cpX m 45 42 a b 430)) := by
  intro n
  induction n with
  | zero =>
    intro z h0 h1
    refine x_iload (pc := 3) dX8_copies_3 0 rfl ?_
    refine x_sipush (pc := 5) (z := 430) dX8_copies_5 (by decide) ?_
    refine x_icmp_ge (pc := 8) 37 dX8_copies_8 (by decide) (by unfold inI; omega) (by unfold inI; omega) (fun c_8 => ?_) (fun c_8 => (by exfalso; omega))
    exact y_vret (pc := 37) dX8_copies_37 rfl (by rw [show z = 430 by omega])
  | succ n ih =>
    intro z h0 h1
    refine x_iload (pc := 3) dX8_copies_3 0 rfl ?_
    refine x_sipush (pc := 5) (z := 430) dX8_copies_5 (by decide) ?_
    refine x_icmp_ge (pc := 8) 37 dX8_copies_8 (by decide) (by unfold inI; omega) (by unfold inI; omega) (fun c_8 => (by exfalso; omega)) (fun c_8 => ?_)
    refine x_aload_n (pc := 11) dX8_copies_11 3 rfl ?_
    refine x_sipush (pc := 12) (z := 430) dX8_copies_12 (by decide) ?_
    refine x_iload_n (pc := 15) dX8_copies_15 4 rfl ?_
    refine x_imul (pc := 16) dX8_copies_16 ?_
    refine x_iload (pc := 17) dX8_copies_17 0 rfl ?_
    refine x_iadd (pc := 19) dX8_copies_19 ?_
    refine x_aload_n (pc := 20) dX8_copies_20 1 rfl ?_
    refine x_sipush (pc := 21) (z := 430) dX8_copies_21 (by decide) ?_
    refine x_iload_n (pc := 24) dX8_copies_24 2 rfl ?_
    refine x_imul (pc := 25) dX8_copies_25 ?_
    refine x_iload (pc := 26) dX8_copies_26 0 rfl ?_
    refine x_iadd (pc := 28) dX8_copies_28 ?_
    refine y_iald (pc := 29) dX8_copies_29 rfl (by decide) (by omega) ?_
    refine y_iast (pc := 30) dX8_copies_30 rfl (by decide) (by omega) ?_
    refine x_nil (m' := cpX m 45 42 a b (z + 1)) (cpX_s (by decide) h0) ?_
    refine x_iinc (pc := 31) (lv' := [(4, _), (0, _), (1, _), (2, _), (3, _)]) dX8_copies_31 0 rfl (by decide) rfl ?_
    refine x_goto (pc := 34) 3 dX8_copies_34 (by decide) ?_
    exact x_lv [0, 1, 2, 3, 4] rfl (ih (z + 1) (by omega) (by omega))

theorem mq_cp45_42 {G : GG} {m : Mem} (a b : Int) (ha : 0 ≤ a ∧ 430 * a + 430 ≤ 3440) (hb : 0 ≤ b ∧ 430 * b + 430 ≤ 430) : Ct G MX8_copies (rmD 0) [rf G 45 0, .int (iI a), rf G 42 0, .int (iI b)] (hp (m)) (.inl none) (hp (cpX m 45 42 a b 430)) := by
  refine x_entry (by decide +kernel) mwX8_copies rfl (Nat.le_of_ble_eq_true rfl) ?_
  show X G MX8_copies (rmD 0) 0 [(0, rf G 45 0), (1, .int (iI a)), (2, rf G 42 0), (3, .int (iI b))] [] (hp (m)) 0 0 (.inl none) (hp (cpX m 45 42 a b 430))
  refine x_iconst (pc := 0) dX8_copies_0 ?_
  refine x_istore (pc := 1) (lv' := [(4, _), (0, _), (1, _), (2, _), (3, _)]) dX8_copies_1 (by decide) rfl ?_
  refine x_nil (m' := cpX m 45 42 a b 0) cpX_0.symm ?_
  exact x_lv [0, 1, 2, 3, 4] rfl (lp_cp45_42 a b ha hb 430 0 (by omega) (by omega))

theorem lp_cp42_46 {G : GG} {m : Mem} (a b : Int) (ha : 0 ≤ a ∧ 430 * a + 430 ≤ 430) (hb : 0 ≤ b ∧ 430 * b + 430 ≤ 860) : ∀ (n : Nat) (z : Int), 0 ≤ z → z + n = 430 → X G MX8_copies (rmD 0) 3 [(4, .int (iI z)), (0, rf G 42 0), (1, .int (iI a)), (2, rf G 46 0), (3, .int (iI b))] [] (hp (cpX m 42 46 a b z)) 0 0 (.inl none) (hp (cpX m 42 46 a b 430)) := by
  intro n
  induction n with
  | zero =>
    intro z h0 h1
    refine x_iload (pc := 3) dX8_copies_3 0 rfl ?_
    refine x_sipush (pc := 5) (z := 430) dX8_copies_5 (by decide) ?_
    refine x_icmp_ge (pc := 8) 37 dX8_copies_8 (by decide) (by unfold inI; omega) (by unfold inI; omega) (fun c_8 => ?_) (fun c_8 => (by exfalso; omega))
    exact y_vret (pc := 37) dX8_copies_37 rfl (by rw [show z = 430 by omega])
  | succ n ih =>
    intro z h0 h1
    refine x_iload (pc := 3) dX8_copies_3 0 rfl ?_
    refine x_sipush (pc := 5) (z := 430) dX8_copies_5 (by decide) ?_
    refine x_icmp_ge (pc := 8) 37 dX8_copies_8 (by decide) (by unfold inI; omega) (by unfold inI; omega) (fun c_8 => (by exfalso; omega)) (fun c_8 => ?_)
    refine x_aload_n (pc := 11) dX8_copies_11 3 rfl ?_
    refine x_sipush (pc := 12) (z := 430) dX8_copies_12 (by decide) ?_
    refine x_iload_n (pc := 15) dX8_copies_15 4 rfl ?_
    refine x_imul (pc := 16) dX8_copies_16 ?_
    refine x_iload (pc := 17) dX8_copies_17 0 rfl ?_
    refine x_iadd (pc := 19) dX8_copies_19 ?_
    refine x_aload_n (pc := 20) dX8_copies_20 1 rfl ?_
    refine x_sipush (pc := 21) (z := 430) dX8_copies_21 (by decide) ?_
    refine x_iload_n (pc := 24) dX8_copies_24 2 rfl ?_
    refine x_imul (pc := 25) dX8_copies_25 ?_
    refine x_iload (pc := 26) dX8_copies_26 0 rfl ?_
    refine x_iadd (pc := 28) dX8_copies_28 ?_
    refine y_iald (pc := 29) dX8_copies_29 rfl (by decide) (by omega) ?_
    refine y_iast (pc := 30) dX8_copies_30 rfl (by decide) (by omega) ?_
    refine x_nil (m' := cpX m 42 46 a b (z + 1)) (cpX_s (by decide) h0) ?_
    refine x_iinc (pc := 31) (lv' := [(4, _), (0, _), (1, _), (2, _), (3, _)]) dX8_copies_31 0 rfl (by decide) rfl ?_
    refine x_goto (pc := 34) 3 dX8_copies_34 (by decide) ?_
    exact x_lv [0, 1, 2, 3, 4] rfl (ih (z + 1) (by omega) (by omega))

theorem mq_cp42_46 {G : GG} {m : Mem} (a b : Int) (ha : 0 ≤ a ∧ 430 * a + 430 ≤ 430) (hb : 0 ≤ b ∧ 430 * b + 430 ≤ 860) : Ct G MX8_copies (rmD 0) [rf G 42 0, .int (iI a), rf G 46 0, .int (iI b)] (hp (m)) (.inl none) (hp (cpX m 42 46 a b 430)) := by
  refine x_entry (by decide +kernel) mwX8_copies rfl (Nat.le_of_ble_eq_true rfl) ?_
  show X G MX8_copies (rmD 0) 0 [(0, rf G 42 0), (1, .int (iI a)), (2, rf G 46 0), (3, .int (iI b))] [] (hp (m)) 0 0 (.inl none) (hp (cpX m 42 46 a b 430))
  refine x_iconst (pc := 0) dX8_copies_0 ?_
  refine x_istore (pc := 1) (lv' := [(4, _), (0, _), (1, _), (2, _), (3, _)]) dX8_copies_1 (by decide) rfl ?_
  refine x_nil (m' := cpX m 42 46 a b 0) cpX_0.symm ?_
  exact x_lv [0, 1, 2, 3, 4] rfl (lp_cp42_46 a b ha hb 430 0 (by omega) (by omega))

theorem lp_cp46_42 {G : GG} {m : Mem} (a b : Int) (ha : 0 ≤ a ∧ 430 * a + 430 ≤ 860) (hb : 0 ≤ b ∧ 430 * b + 430 ≤ 430) : ∀ (n : Nat) (z : Int), 0 ≤ z → z + n = 430 → X G MX8_copies (rmD 0) 3 [(4, .int (iI z)), (0, rf G 46 0), (1, .int (iI a)), (2, rf G 42 0), (3, .int (iI b))] [] (hp (cpX m 46 42 a b z)) 0 0 (.inl none) (hp (cpX m 46 42 a b 430)) := by
  intro n
  induction n with
  | zero =>
    intro z h0 h1
    refine x_iload (pc := 3) dX8_copies_3 0 rfl ?_
    refine x_sipush (pc := 5) (z := 430) dX8_copies_5 (by decide) ?_
    refine x_icmp_ge (pc := 8) 37 dX8_copies_8 (by decide) (by unfold inI; omega) (by unfold inI; omega) (fun c_8 => ?_) (fun c_8 => (by exfalso; omega))
    exact y_vret (pc := 37) dX8_copies_37 rfl (by rw [show z = 430 by omega])
  | succ n ih =>
    intro z h0 h1
    refine x_iload (pc := 3) dX8_copies_3 0 rfl ?_
    refine x_sipush (pc := 5) (z := 430) dX8_copies_5 (by decide) ?_
    refine x_icmp_ge (pc := 8) 37 dX8_copies_8 (by decide) (by unfold inI; omega) (by unfold inI; omega) (fun c_8 => (by exfalso; omega)) (fun c_8 => ?_)
    refine x_aload_n (pc := 11) dX8_copies_11 3 rfl ?_
    refine x_sipush (pc := 12) (z := 430) dX8_copies_12 (by decide) ?_
    refine x_iload_n (pc := 15) dX8_copies_15 4 rfl ?_
    refine x_imul (pc := 16) dX8_copies_16 ?_
    refine x_iload (pc := 17) dX8_copies_17 0 rfl ?_
    refine x_iadd (pc := 19) dX8_copies_19 ?_
    refine x_aload_n (pc := 20) dX8_copies_20 1 rfl ?_
    refine x_sipush (pc := 21) (z := 430) dX8_copies_21 (by decide) ?_
    refine x_iload_n (pc := 24) dX8_copies_24 2 rfl ?_
    refine x_imul (pc := 25) dX8_copies_25 ?_
    refine x_iload (pc := 26) dX8_copies_26 0 rfl ?_
    refine x_iadd (pc := 28) dX8_copies_28 ?_
    refine y_iald (pc := 29) dX8_copies_29 rfl (by decide) (by omega) ?_
    refine y_iast (pc := 30) dX8_copies_30 rfl (by decide) (by omega) ?_
    refine x_nil (m' := cpX m 46 42 a b (z + 1)) (cpX_s (by decide) h0) ?_
    refine x_iinc (pc := 31) (lv' := [(4, _), (0, _), (1, _), (2, _), (3, _)]) dX8_copies_31 0 rfl (by decide) rfl ?_
    refine x_goto (pc := 34) 3 dX8_copies_34 (by decide) ?_
    exact x_lv [0, 1, 2, 3, 4] rfl (ih (z + 1) (by omega) (by omega))

theorem mq_cp46_42 {G : GG} {m : Mem} (a b : Int) (ha : 0 ≤ a ∧ 430 * a + 430 ≤ 860) (hb : 0 ≤ b ∧ 430 * b + 430 ≤ 430) : Ct G MX8_copies (rmD 0) [rf G 46 0, .int (iI a), rf G 42 0, .int (iI b)] (hp (m)) (.inl none) (hp (cpX m 46 42 a b 430)) := by
  refine x_entry (by decide +kernel) mwX8_copies rfl (Nat.le_of_ble_eq_true rfl) ?_
  show X G MX8_copies (rmD 0) 0 [(0, rf G 46 0), (1, .int (iI a)), (2, rf G 42 0), (3, .int (iI b))] [] (hp (m)) 0 0 (.inl none) (hp (cpX m 46 42 a b 430))
  refine x_iconst (pc := 0) dX8_copies_0 ?_
  refine x_istore (pc := 1) (lv' := [(4, _), (0, _), (1, _), (2, _), (3, _)]) dX8_copies_1 (by decide) rfl ?_
  refine x_nil (m' := cpX m 46 42 a b 0) cpX_0.symm ?_
  exact x_lv [0, 1, 2, 3, 4] rfl (lp_cp46_42 a b ha hb 430 0 (by omega) (by omega))

theorem mq_putsAside {G : GG} {m : Mem} : Ct G MX8_putsAside (rmD 1) [rf G 41 0] (hp (m)) (.inl none) (hp (cpX m 42 44 0 0 430)) := by
  refine x_entry (by decide +kernel) mwX8_putsAside rfl (Nat.le_of_ble_eq_true rfl) ?_
  show X G MX8_putsAside (rmD 1) 0 [(0, rf G 41 0)] [] (hp (m)) 0 0 (.inl none) (hp (cpX m 42 44 0 0 430))
  refine x_aload_n (pc := 0) dX8_putsAside_0 0 rfl ?_
  refine y_getR (pc := 1) dX8_putsAside_1 flX8_9 rfl rfl rfl (by decide) ?_
  refine x_iconst (pc := 4) dX8_putsAside_4 ?_
  refine x_aload_n (pc := 5) dX8_putsAside_5 0 rfl ?_
  refine y_getR (pc := 6) dX8_putsAside_6 flX8_16 rfl rfl rfl (by decide) ?_
  refine x_iconst (pc := 9) dX8_putsAside_9 ?_
  refine x_callS (pc := 10) _ dX8_putsAside_10 (mq_cp42_44 0 0 (by omega) (by omega)) lkX8_183 rfl (by decide) (Nat.le_of_ble_eq_true rfl) rfl ?_
  exact y_vret (pc := 13) dX8_putsAside_13 rfl rfl

theorem mq_putsBack {G : GG} {m : Mem} : Ct G MX8_putsBack (rmD 1) [rf G 41 0] (hp (m)) (.inl none) (hp (cpX m 44 42 0 0 430)) := by
  refine x_entry (by decide +kernel) mwX8_putsBack rfl (Nat.le_of_ble_eq_true rfl) ?_
  show X G MX8_putsBack (rmD 1) 0 [(0, rf G 41 0)] [] (hp (m)) 0 0 (.inl none) (hp (cpX m 44 42 0 0 430))
  refine x_aload_n (pc := 0) dX8_putsBack_0 0 rfl ?_
  refine y_getR (pc := 1) dX8_putsBack_1 flX8_16 rfl rfl rfl (by decide) ?_
  refine x_iconst (pc := 4) dX8_putsBack_4 ?_
  refine x_aload_n (pc := 5) dX8_putsBack_5 0 rfl ?_
  refine y_getR (pc := 6) dX8_putsBack_6 flX8_9 rfl rfl rfl (by decide) ?_
  refine x_iconst (pc := 9) dX8_putsBack_9 ?_
  refine x_callS (pc := 10) _ dX8_putsBack_10 (mq_cp44_42 0 0 (by omega) (by omega)) lkX8_183 rfl (by decide) (Nat.le_of_ble_eq_true rfl) rfl ?_
  exact y_vret (pc := 13) dX8_putsBack_13 rfl rfl

def keX (m : Mem) (pm : Int) : Mem := up3 (cpX m 42 45 0 pm 430) 41 0 6 (pm + 1)
def keM (m : Mem) : Mem := if m 41 0 6 = 8 then keX (up3 (shX m 3010) 41 0 6 7) 7 else keX m (m 41 0 6)
theorem lp_keeps {G : GG} {m : Mem} (hm : m 41 0 6 = 8) : ∀ (n : Nat) (z : Int), 0 ≤ z → z + n = 3010 → X G MX8_keeps (rmD 1) 11 [(1, .int (iI z)), (0, rf G 41 0)] [] (hp (shX m z)) 0 0 (.inl none) (hp (keX (up3 (shX m 3010) 41 0 6 7) 7)) := by
  intro n
  induction n with
  | zero =>
    intro z h0 h1
    refine x_iload_n (pc := 11) dX8_keeps_11 0 rfl ?_
    refine x_sipush (pc := 12) (z := 3010) dX8_keeps_12 (by decide) ?_
    refine x_icmp_ge (pc := 15) 40 dX8_keeps_15 (by decide) (by unfold inI; omega) (by unfold inI; omega) (fun c_15 => ?_) (fun c_15 => (by exfalso; omega))
    refine x_aload_n (pc := 40) dX8_keeps_40 1 rfl ?_
    refine x_dup (pc := 41) dX8_keeps_41 rfl ?_
    refine y_getI (pc := 42) 6 dX8_keeps_42 flX8_186 rfl rfl rfl (by decide) ?_
    refine x_iconst (pc := 45) dX8_keeps_45 ?_
    refine x_isub (pc := 46) dX8_keeps_46 ?_
    refine y_putI (pc := 47) 6 dX8_keeps_47 fwX8_186 rfl rfl rfl (by decide) ?_
    refine x_nil (m' := up3 (shX m 3010) 41 0 6 7) (by rw [show z = 3010 by omega, shX_k (show 41 ≠ 45 by decide), hm]; rfl) ?_
    refine x_aload_n (pc := 50) dX8_keeps_50 1 rfl ?_
    refine y_getR (pc := 51) dX8_keeps_51 flX8_9 rfl rfl rfl (by decide) ?_
    refine x_iconst (pc := 54) dX8_keeps_54 ?_
    refine x_aload_n (pc := 55) dX8_keeps_55 1 rfl ?_
    refine y_getR (pc := 56) dX8_keeps_56 flX8_19 rfl rfl rfl (by decide) ?_
    refine x_aload_n (pc := 59) dX8_keeps_59 1 rfl ?_
    refine y_getI (pc := 60) 6 dX8_keeps_60 flX8_186 rfl rfl rfl (by decide) ?_
    refine x_top (v' := .int (iI (7))) (by rw [up3_at]) ?_
    refine x_callS (pc := 63) _ dX8_keeps_63 (mq_cp42_45 0 7 (by omega) (by omega)) lkX8_183 rfl (by decide) (Nat.le_of_ble_eq_true rfl) rfl ?_
    refine x_aload_n (pc := 66) dX8_keeps_66 1 rfl ?_
    refine x_dup (pc := 67) dX8_keeps_67 rfl ?_
    refine y_getI (pc := 68) 6 dX8_keeps_68 flX8_186 rfl rfl rfl (by decide) ?_
    refine x_iconst (pc := 71) dX8_keeps_71 ?_
    refine x_iadd (pc := 72) dX8_keeps_72 ?_
    refine y_putI (pc := 73) 6 dX8_keeps_73 fwX8_186 rfl rfl rfl (by decide) ?_
    exact y_vret (pc := 76) dX8_keeps_76 rfl (by unfold keX; rw [cpX_k (show 41 ≠ 45 by decide), up3_at])
  | succ n ih =>
    intro z h0 h1
    refine x_iload_n (pc := 11) dX8_keeps_11 0 rfl ?_
    refine x_sipush (pc := 12) (z := 3010) dX8_keeps_12 (by decide) ?_
    refine x_icmp_ge (pc := 15) 40 dX8_keeps_15 (by decide) (by unfold inI; omega) (by unfold inI; omega) (fun c_15 => (by exfalso; omega)) (fun c_15 => ?_)
    refine x_aload_n (pc := 18) dX8_keeps_18 1 rfl ?_
    refine y_getR (pc := 19) dX8_keeps_19 flX8_19 rfl rfl rfl (by decide) ?_
    refine x_iload_n (pc := 22) dX8_keeps_22 0 rfl ?_
    refine x_aload_n (pc := 23) dX8_keeps_23 1 rfl ?_
    refine y_getR (pc := 24) dX8_keeps_24 flX8_19 rfl rfl rfl (by decide) ?_
    refine x_iload_n (pc := 27) dX8_keeps_27 0 rfl ?_
    refine x_sipush (pc := 28) (z := 430) dX8_keeps_28 (by decide) ?_
    refine x_iadd (pc := 31) dX8_keeps_31 ?_
    refine y_iald (pc := 32) dX8_keeps_32 rfl (by decide) (by omega) ?_
    refine y_iast (pc := 33) dX8_keeps_33 rfl (by decide) (by omega) ?_
    refine x_nil (m' := shX m (z + 1)) (shX_s h0) ?_
    refine x_iinc (pc := 34) (lv' := [(1, _), (0, _)]) dX8_keeps_34 0 rfl (by decide) rfl ?_
    refine x_goto (pc := 37) 11 dX8_keeps_37 (by decide) ?_
    exact x_lv [0, 1] rfl (ih (z + 1) (by omega) (by omega))

theorem mq_keeps8 {G : GG} {m : Mem} (hm : m 41 0 6 = 8) : Ct G MX8_keeps (rmD 1) [rf G 41 0] (hp (m)) (.inl none) (hp (keX (up3 (shX m 3010) 41 0 6 7) 7)) := by
  refine x_entry (by decide +kernel) mwX8_keeps rfl (Nat.le_of_ble_eq_true rfl) ?_
  show X G MX8_keeps (rmD 1) 0 [(0, rf G 41 0)] [] (hp (m)) 0 0 (.inl none) (hp (keX (up3 (shX m 3010) 41 0 6 7) 7))
  refine x_aload_n (pc := 0) dX8_keeps_0 0 rfl ?_
  refine y_getI (pc := 1) 6 dX8_keeps_1 flX8_186 rfl rfl rfl (by decide) ?_
  refine x_bipush (pc := 4) (z := 8) dX8_keeps_4 (by decide) ?_
  refine x_icmp_ne (pc := 6) 50 dX8_keeps_6 (by decide) (by unfold inI; omega) (by unfold inI; omega) (fun c_6 => (by exfalso; omega)) (fun c_6 => ?_)
  refine x_iconst (pc := 9) dX8_keeps_9 ?_
  refine x_istore_n (pc := 10) (lv' := [(1, _), (0, _)]) dX8_keeps_10 rfl (by decide) rfl ?_
  refine x_nil (m' := shX m 0) shX_0.symm ?_
  exact x_lv [0, 1] rfl (lp_keeps hm 3010 0 (by omega) (by omega))

theorem mq_keeps7 {G : GG} {m : Mem} (hm : 0 ≤ m 41 0 6 ∧ m 41 0 6 < 8) : Ct G MX8_keeps (rmD 1) [rf G 41 0] (hp (m)) (.inl none) (hp (keX m (m 41 0 6))) := by
  refine x_entry (by decide +kernel) mwX8_keeps rfl (Nat.le_of_ble_eq_true rfl) ?_
  show X G MX8_keeps (rmD 1) 0 [(0, rf G 41 0)] [] (hp (m)) 0 0 (.inl none) (hp (keX m (m 41 0 6)))
  refine x_aload_n (pc := 0) dX8_keeps_0 0 rfl ?_
  refine y_getI (pc := 1) 6 dX8_keeps_1 flX8_186 rfl rfl rfl (by decide) ?_
  refine x_bipush (pc := 4) (z := 8) dX8_keeps_4 (by decide) ?_
  refine x_icmp_ne (pc := 6) 50 dX8_keeps_6 (by decide) (by unfold inI; omega) (by unfold inI; omega) (fun c_6 => ?_) (fun c_6 => (by exfalso; omega))
  refine x_aload_n (pc := 50) dX8_keeps_50 0 rfl ?_
  refine y_getR (pc := 51) dX8_keeps_51 flX8_9 rfl rfl rfl (by decide) ?_
  refine x_iconst (pc := 54) dX8_keeps_54 ?_
  refine x_aload_n (pc := 55) dX8_keeps_55 0 rfl ?_
  refine y_getR (pc := 56) dX8_keeps_56 flX8_19 rfl rfl rfl (by decide) ?_
  refine x_aload_n (pc := 59) dX8_keeps_59 0 rfl ?_
  refine y_getI (pc := 60) 6 dX8_keeps_60 flX8_186 rfl rfl rfl (by decide) ?_
  refine x_callS (pc := 63) _ dX8_keeps_63 (mq_cp42_45 0 (m 41 0 6) (by omega) (by omega)) lkX8_183 rfl (by decide) (Nat.le_of_ble_eq_true rfl) rfl ?_
  refine x_aload_n (pc := 66) dX8_keeps_66 0 rfl ?_
  refine x_dup (pc := 67) dX8_keeps_67 rfl ?_
  refine y_getI (pc := 68) 6 dX8_keeps_68 flX8_186 rfl rfl rfl (by decide) ?_
  refine x_iconst (pc := 71) dX8_keeps_71 ?_
  refine x_iadd (pc := 72) dX8_keeps_72 ?_
  refine y_putI (pc := 73) 6 dX8_keeps_73 fwX8_186 rfl rfl rfl (by decide) ?_
  exact y_vret (pc := 76) dX8_keeps_76 rfl (by unfold keX; rw [cpX_k (show 41 ≠ 45 by decide)])

theorem mq_keeps {G : GG} {m : Mem} (hm : 0 ≤ m 41 0 6 ∧ m 41 0 6 ≤ 8) : Ct G MX8_keeps (rmD 1) [rf G 41 0] (hp m) (.inl none) (hp (keM m)) := by
  unfold keM
  split
  · rename_i h
    exact mq_keeps8 h
  · exact mq_keeps7 (by omega)