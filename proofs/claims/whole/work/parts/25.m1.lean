theorem mq_in {G : GG} {m : Mem} (v lo hi : Int) (hv : inL v) (hl : inL lo) (hh : inL hi) : Ct G MX8_in (rmD 0) [.long (lI v), .long (lI lo), .long (lI hi)] (hp (m)) (.inl (some (.int (iI (if lo ≤ v ∧ v ≤ hi then 1 else 0))))) (hp (m)) := by
  refine x_entry (by decide +kernel) mwX8_in rfl (Nat.le_of_ble_eq_true rfl) ?_
  show X G MX8_in (rmD 0) 0 [(0, .long (lI v)), (2, .long (lI lo)), (4, .long (lI hi))] [] (hp (m)) 0 0 (.inl (some (.int (iI (if lo ≤ v ∧ v ≤ hi then 1 else 0))))) (hp (m))
  refine x_lload_n (pc := 0) dX8_in_0 0 rfl ?_
  refine x_lload_n (pc := 1) dX8_in_1 1 rfl ?_
  refine x_lcmp (pc := 2) dX8_in_2 hv hl ?_
  refine x_if_lt (pc := 3) 17 dX8_in_3 (by decide) (by unfold inI; split <;> omega) (fun c_3 => ?_) (fun c_3 => ?_)
  · refine x_iconst (pc := 17) dX8_in_17 ?_
    exact y_z0ret (pc := 18) dX8_in_18 rfl (by revert c_3; split <;> omega) rfl
  · refine x_lload_n (pc := 6) dX8_in_6 0 rfl ?_
    refine x_lload (pc := 7) dX8_in_7 2 rfl ?_
    refine x_lcmp (pc := 9) dX8_in_9 hv hh ?_
    refine x_if_gt (pc := 10) 17 dX8_in_10 (by decide) (by unfold inI; split <;> omega) (fun c_10 => ?_) (fun c_10 => ?_)
    · refine x_iconst (pc := 17) dX8_in_17 ?_
      exact y_z0ret (pc := 18) dX8_in_18 rfl (by revert c_10; split <;> omega) rfl
    · refine x_iconst (pc := 13) dX8_in_13 ?_
      refine x_goto (pc := 14) 18 dX8_in_14 (by decide) ?_
      exact y_z1ret (pc := 18) dX8_in_18 rfl (by revert c_3 c_10; split <;> split <;> omega) rfl

theorem mq_ofPack {G : GG} {m : Mem} {N : Int → Int} (q w : Int) (h : 0 ≤ 30 + 7 * q + w ∧ 30 + 7 * q + w < 430) : Ct G MX8_ofPack (rmD 0) [rf G 41 0, .int (iI q), .int (iI w)] (hp (sr m N)) (.inl (some (.int (iI (N (30 + 7 * q + w)))))) (hp (sr m N)) := by
  refine x_entry (by decide +kernel) mwX8_ofPack rfl (Nat.le_of_ble_eq_true rfl) ?_
  show X G MX8_ofPack (rmD 0) 0 [(0, rf G 41 0), (1, .int (iI q)), (2, .int (iI w))] [] (hp (sr m N)) 0 0 (.inl (some (.int (iI (N (30 + 7 * q + w)))))) (hp (sr m N))
  refine x_aload_n (pc := 0) dX8_ofPack_0 0 rfl ?_
  refine y_getR (pc := 1) dX8_ofPack_1 flX8_9 rfl rfl rfl (by decide) ?_
  refine x_bipush (pc := 4) (z := 30) dX8_ofPack_4 (by decide) ?_
  refine x_bipush (pc := 6) (z := 7) dX8_ofPack_6 (by decide) ?_
  refine x_iload_n (pc := 8) dX8_ofPack_8 1 rfl ?_
  refine x_imul (pc := 9) dX8_ofPack_9 ?_
  refine x_iadd (pc := 10) dX8_ofPack_10 ?_
  refine x_iload_n (pc := 11) dX8_ofPack_11 2 rfl ?_
  refine x_iadd (pc := 12) dX8_ofPack_12 ?_
  refine y_nald (pc := 13) dX8_ofPack_13 (by omega) ?_
  exact y_iret (pc := 14) dX8_ofPack_14 rfl rfl rfl

theorem mq_ofCable {G : GG} {m : Mem} {N : Int → Int} (q w : Int) (h : 0 ≤ 86 + 6 * q + w ∧ 86 + 6 * q + w < 430) : Ct G MX8_ofCable (rmD 0) [rf G 41 0, .int (iI q), .int (iI w)] (hp (sr m N)) (.inl (some (.int (iI (N (86 + 6 * q + w)))))) (hp (sr m N)) := by
  refine x_entry (by decide +kernel) mwX8_ofCable rfl (Nat.le_of_ble_eq_true rfl) ?_
  show X G MX8_ofCable (rmD 0) 0 [(0, rf G 41 0), (1, .int (iI q)), (2, .int (iI w))] [] (hp (sr m N)) 0 0 (.inl (some (.int (iI (N (86 + 6 * q + w)))))) (hp (sr m N))
  refine x_aload_n (pc := 0) dX8_ofCable_0 0 rfl ?_
  refine y_getR (pc := 1) dX8_ofCable_1 flX8_9 rfl rfl rfl (by decide) ?_
  refine x_bipush (pc := 4) (z := 86) dX8_ofCable_4 (by decide) ?_
  refine x_bipush (pc := 6) (z := 6) dX8_ofCable_6 (by decide) ?_
  refine x_iload_n (pc := 8) dX8_ofCable_8 1 rfl ?_
  refine x_imul (pc := 9) dX8_ofCable_9 ?_
  refine x_iadd (pc := 10) dX8_ofCable_10 ?_
  refine x_iload_n (pc := 11) dX8_ofCable_11 2 rfl ?_
  refine x_iadd (pc := 12) dX8_ofCable_12 ?_
  refine y_nald (pc := 13) dX8_ofCable_13 (by omega) ?_
  exact y_iret (pc := 14) dX8_ofCable_14 rfl rfl rfl

theorem mq_ofTrip {G : GG} {m : Mem} {N : Int → Int} (q w : Int) (h : 0 ≤ 206 + 4 * q + w ∧ 206 + 4 * q + w < 430) : Ct G MX8_ofTrip (rmD 0) [rf G 41 0, .int (iI q), .int (iI w)] (hp (sr m N)) (.inl (some (.int (iI (N (206 + 4 * q + w)))))) (hp (sr m N)) := by
  refine x_entry (by decide +kernel) mwX8_ofTrip rfl (Nat.le_of_ble_eq_true rfl) ?_
  show X G MX8_ofTrip (rmD 0) 0 [(0, rf G 41 0), (1, .int (iI q)), (2, .int (iI w))] [] (hp (sr m N)) 0 0 (.inl (some (.int (iI (N (206 + 4 * q + w)))))) (hp (sr m N))
  refine x_aload_n (pc := 0) dX8_ofTrip_0 0 rfl ?_
  refine y_getR (pc := 1) dX8_ofTrip_1 flX8_9 rfl rfl rfl (by decide) ?_
  refine x_sipush (pc := 4) (z := 206) dX8_ofTrip_4 (by decide) ?_
  refine x_iconst (pc := 7) dX8_ofTrip_7 ?_
  refine x_iload_n (pc := 8) dX8_ofTrip_8 1 rfl ?_
  refine x_imul (pc := 9) dX8_ofTrip_9 ?_
  refine x_iadd (pc := 10) dX8_ofTrip_10 ?_
  refine x_iload_n (pc := 11) dX8_ofTrip_11 2 rfl ?_
  refine x_iadd (pc := 12) dX8_ofTrip_12 ?_
  refine y_nald (pc := 13) dX8_ofTrip_13 (by omega) ?_
  exact y_iret (pc := 14) dX8_ofTrip_14 rfl rfl rfl

theorem mq_ofContract {G : GG} {m : Mem} {N : Int → Int} (q w : Int) (h : 0 ≤ 270 + 6 * q + w ∧ 270 + 6 * q + w < 430) : Ct G MX8_ofContract (rmD 0) [rf G 41 0, .int (iI q), .int (iI w)] (hp (sr m N)) (.inl (some (.int (iI (N (270 + 6 * q + w)))))) (hp (sr m N)) := by
  refine x_entry (by decide +kernel) mwX8_ofContract rfl (Nat.le_of_ble_eq_true rfl) ?_
  show X G MX8_ofContract (rmD 0) 0 [(0, rf G 41 0), (1, .int (iI q)), (2, .int (iI w))] [] (hp (sr m N)) 0 0 (.inl (some (.int (iI (N (270 + 6 * q + w)))))) (hp (sr m N))
  refine x_aload_n (pc := 0) dX8_ofContract_0 0 rfl ?_
  refine y_getR (pc := 1) dX8_ofContract_1 flX8_9 rfl rfl rfl (by decide) ?_
  refine x_sipush (pc := 4) (z := 270) dX8_ofContract_4 (by decide) ?_
  refine x_bipush (pc := 7) (z := 6) dX8_ofContract_7 (by decide) ?_
  refine x_iload_n (pc := 9) dX8_ofContract_9 1 rfl ?_
  refine x_imul (pc := 10) dX8_ofContract_10 ?_
  refine x_iadd (pc := 11) dX8_ofContract_11 ?_
  refine x_iload_n (pc := 12) dX8_ofContract_12 2 rfl ?_
  refine x_iadd (pc := 13) dX8_ofContract_13 ?_
  refine y_nald (pc := 14) dX8_ofContract_14 (by omega) ?_
  exact y_iret (pc := 15) dX8_ofContract_15 rfl rfl rfl

theorem mq_ofLoan {G : GG} {m : Mem} {N : Int → Int} (q w : Int) (h : 0 ≤ 318 + 7 * q + w ∧ 318 + 7 * q + w < 430) : Ct G MX8_ofLoan (rmD 0) [rf G 41 0, .int (iI q), .int (iI w)] (hp (sr m N)) (.inl (some (.int (iI (N (318 + 7 * q + w)))))) (hp (sr m N)) := by
  refine x_entry (by decide +kernel) mwX8_ofLoan rfl (Nat.le_of_ble_eq_true rfl) ?_
  show X G MX8_ofLoan (rmD 0) 0 [(0, rf G 41 0), (1, .int (iI q)), (2, .int (iI w))] [] (hp (sr m N)) 0 0 (.inl (some (.int (iI (N (318 + 7 * q + w)))))) (hp (sr m N))
  refine x_aload_n (pc := 0) dX8_ofLoan_0 0 rfl ?_
  refine y_getR (pc := 1) dX8_ofLoan_1 flX8_9 rfl rfl rfl (by decide) ?_
  refine x_sipush (pc := 4) (z := 318) dX8_ofLoan_4 (by decide) ?_
  refine x_bipush (pc := 7) (z := 7) dX8_ofLoan_7 (by decide) ?_
  refine x_iload_n (pc := 9) dX8_ofLoan_9 1 rfl ?_
  refine x_imul (pc := 10) dX8_ofLoan_10 ?_
  refine x_iadd (pc := 11) dX8_ofLoan_11 ?_
  refine x_iload_n (pc := 12) dX8_ofLoan_12 2 rfl ?_
  refine x_iadd (pc := 13) dX8_ofLoan_13 ?_
  refine y_nald (pc := 14) dX8_ofLoan_14 (by omega) ?_
  exact y_iret (pc := 15) dX8_ofLoan_15 rfl rfl rfl

theorem mq_growsPack {G : GG} {m : Mem} {N : Int → Int} (q w z : Int) (h : 0 ≤ 30 + 7 * q + w ∧ 30 + 7 * q + w < 430) : Ct G MX8_growsPack (rmD 0) [rf G 41 0, .int (iI q), .int (iI w), .int (iI z)] (hp (sr m N)) (.inl none) (hp (sr m (upN N (30 + 7 * q + w) (N (30 + 7 * q + w) + z)))) := by
  refine x_entry (by decide +kernel) mwX8_growsPack rfl (Nat.le_of_ble_eq_true rfl) ?_
  show X G MX8_growsPack (rmD 0) 0 [(0, rf G 41 0), (1, .int (iI q)), (2, .int (iI w)), (3, .int (iI z))] [] (hp (sr m N)) 0 0 (.inl none) (hp (sr m (upN N (30 + 7 * q + w) (N (30 + 7 * q + w) + z))))
  refine x_aload_n (pc := 0) dX8_growsPack_0 0 rfl ?_
  refine y_getR (pc := 1) dX8_growsPack_1 flX8_9 rfl rfl rfl (by decide) ?_
  refine x_bipush (pc := 4) (z := 30) dX8_growsPack_4 (by decide) ?_
  refine x_bipush (pc := 6) (z := 7) dX8_growsPack_6 (by decide) ?_
  refine x_iload_n (pc := 8) dX8_growsPack_8 1 rfl ?_
  refine x_imul (pc := 9) dX8_growsPack_9 ?_
  refine x_iadd (pc := 10) dX8_growsPack_10 ?_
  refine x_iload_n (pc := 11) dX8_growsPack_11 2 rfl ?_
  refine x_iadd (pc := 12) dX8_growsPack_12 ?_
  refine x_dup2 (pc := 13) dX8_growsPack_13 rfl rfl ?_
  refine y_nald (pc := 14) dX8_growsPack_14 (by omega) ?_
  refine x_iload_n (pc := 15) dX8_growsPack_15 3 rfl ?_
  refine x_iadd (pc := 16) dX8_growsPack_16 ?_
  refine y_nast (pc := 17) dX8_growsPack_17 (by omega) ?_
  exact y_vret (pc := 18) dX8_growsPack_18 rfl rfl

theorem mq_setsLoan {G : GG} {m : Mem} {N : Int → Int} (q w z : Int) (h : 0 ≤ 318 + 7 * q + w ∧ 318 + 7 * q + w < 430) : Ct G MX8_setsLoan (rmD 0) [rf G 41 0, .int (iI q), .int (iI w), .int (iI z)] (hp (sr m N)) (.inl none) (hp (sr m (upN N (318 + 7 * q + w) z))) := by
  refine x_entry (by decide +kernel) mwX8_setsLoan rfl (Nat.le_of_ble_eq_true rfl) ?_
  show X G MX8_setsLoan (rmD 0) 0 [(0, rf G 41 0), (1, .int (iI q)), (2, .int (iI w)), (3, .int (iI z))] [] (hp (sr m N)) 0 0 (.inl none) (hp (sr m (upN N (318 + 7 * q + w) z)))
  refine x_aload_n (pc := 0) dX8_setsLoan_0 0 rfl ?_
  refine y_getR (pc := 1) dX8_setsLoan_1 flX8_9 rfl rfl rfl (by decide) ?_
  refine x_sipush (pc := 4) (z := 318) dX8_setsLoan_4 (by decide) ?_
  refine x_bipush (pc := 7) (z := 7) dX8_setsLoan_7 (by decide) ?_
  refine x_iload_n (pc := 9) dX8_setsLoan_9 1 rfl ?_
  refine x_imul (pc := 10) dX8_setsLoan_10 ?_
  refine x_iadd (pc := 11) dX8_setsLoan_11 ?_
  refine x_iload_n (pc := 12) dX8_setsLoan_12 2 rfl ?_
  refine x_iadd (pc := 13) dX8_setsLoan_13 ?_
  refine x_iload_n (pc := 14) dX8_setsLoan_14 3 rfl ?_
  refine y_nast (pc := 15) dX8_setsLoan_15 (by omega) ?_
  exact y_vret (pc := 16) dX8_setsLoan_16 rfl rfl

theorem mq_ofLoans {G : GG} {m : Mem} {N : Int → Int} (l w : Int) (h : 0 ≤ l ∧ l < 16) (h2 : 0 ≤ 270 + 6 * N (318 + 7 * l + 0) + w ∧ 270 + 6 * N (318 + 7 * l + 0) + w < 430) : Ct G MX8_ofLoans (rmD 1) [rf G 41 0, .int (iI l), .int (iI w)] (hp (sr m N)) (.inl (some (.int (iI (N (270 + 6 * N (318 + 7 * l + 0) + w)))))) (hp (sr m N)) := by
  refine x_entry (by decide +kernel) mwX8_ofLoans rfl (Nat.le_of_ble_eq_true rfl) ?_
  show X G MX8_ofLoans (rmD 1) 0 [(0, rf G 41 0), (1, .int (iI l)), (2, .int (iI w))] [] (hp (sr m N)) 0 0 (.inl (some (.int (iI (N (270 + 6 * N (318 + 7 * l + 0) + w)))))) (hp (sr m N))
  refine x_aload_n (pc := 0) dX8_ofLoans_0 0 rfl ?_
  refine x_aload_n (pc := 1) dX8_ofLoans_1 0 rfl ?_
  refine x_iload_n (pc := 2) dX8_ofLoans_2 1 rfl ?_
  refine x_iconst (pc := 3) dX8_ofLoans_3 ?_
  refine x_callV (pc := 4) _ dX8_ofLoans_4 (mq_ofLoan l 0 (by omega)) lkX8_50 rfl rfl rfl rfl (mem_dom0 (by decide) (by decide)) (by decide) (Nat.le_of_ble_eq_true rfl) rfl ?_
  refine x_iload_n (pc := 7) dX8_ofLoans_7 2 rfl ?_
  refine x_callV (pc := 8) _ dX8_ofLoans_8 (mq_ofContract _ w h2) lkX8_54 rfl rfl rfl rfl (mem_dom0 (by decide) (by decide)) (by decide) (Nat.le_of_ble_eq_true rfl) rfl ?_
  exact y_iret (pc := 11) dX8_ofLoans_11 rfl rfl rfl

theorem mq_roomOf {G : GG} {m : Mem} {N : Int → Int} (q : Int) (h : PN N q) : Ct G MX8_roomOf (rmD 1) [rf G 41 0, .int (iI q)] (hp (sr m N)) (.inl (some (.int (iI (roomN N q))))) (hp (sr m N)) := by
  refine x_entry (by decide +kernel) mwX8_roomOf rfl (Nat.le_of_ble_eq_true rfl) ?_
  show X G MX8_roomOf (rmD 1) 0 [(0, rf G 41 0), (1, .int (iI q))] [] (hp (sr m N)) 0 0 (.inl (some (.int (iI (roomN N q))))) (hp (sr m N))
  obtain ⟨hq, h1, h2, h3, h4⟩ := h
  have hd0 : 0 ≤ N (30 + 7 * q + 2) / N 0 := Int.ediv_nonneg (by omega) (by omega)
  have hd1 : N (30 + 7 * q + 2) / N 0 ≤ 1000000000 := Int.le_trans (Int.ediv_le_self _ (by omega)) (by omega)
  refine x_aload_n (pc := 0) dX8_roomOf_0 0 rfl ?_
  refine x_iload_n (pc := 1) dX8_roomOf_1 1 rfl ?_
  refine x_iconst (pc := 2) dX8_roomOf_2 ?_
  refine x_callV (pc := 3) _ dX8_roomOf_3 (mq_ofPack (q) 0 (by omega)) lkX8_189 rfl rfl rfl rfl (mem_dom0 (by decide) (by decide)) (by decide) (Nat.le_of_ble_eq_true rfl) rfl ?_
  refine x_istore_n (pc := 6) (lv' := [(2, _), (0, _), (1, _)]) dX8_roomOf_6 rfl (by decide) rfl ?_
  refine x_iload_n (pc := 7) dX8_roomOf_7 0 rfl ?_
  refine x_iload_n (pc := 8) dX8_roomOf_8 0 rfl ?_
  refine x_iconst (pc := 9) dX8_roomOf_9 ?_
  refine x_idiv (pc := 10) dX8_roomOf_10 (by omega) (by omega) ?_
  refine x_isub (pc := 11) dX8_roomOf_11 ?_
  refine x_iload_n (pc := 12) dX8_roomOf_12 0 rfl ?_
  refine x_aload_n (pc := 13) dX8_roomOf_13 1 rfl ?_
  refine x_iload_n (pc := 14) dX8_roomOf_14 2 rfl ?_
  refine x_iconst (pc := 15) dX8_roomOf_15 ?_
  refine x_callV (pc := 16) _ dX8_roomOf_16 (mq_ofPack (q) 2 (by omega)) lkX8_189 rfl rfl rfl rfl (mem_dom0 (by decide) (by decide)) (by decide) (Nat.le_of_ble_eq_true rfl) rfl ?_
  refine x_aload_n (pc := 19) dX8_roomOf_19 1 rfl ?_
  refine y_getR (pc := 20) dX8_roomOf_20 flX8_9 rfl rfl rfl (by decide) ?_
  refine x_iconst (pc := 23) dX8_roomOf_23 ?_
  refine y_nald (pc := 24) dX8_roomOf_24 (by omega) ?_
  refine x_idiv (pc := 25) dX8_roomOf_25 (by omega) (by omega) ?_
  refine x_isub (pc := 26) dX8_roomOf_26 ?_
  refine x_max (pc := 27) dX8_roomOf_27 lmX8_192 (by unfold inI; omega) (by unfold inI; omega) (by decide) (Nat.le_of_ble_eq_true rfl) (by decide) (by decide) ?_
  exact y_iret (pc := 30) dX8_roomOf_30 rfl rfl rfl

theorem mq_quarterOf {G : GG} {m : Mem} {N : Int → Int} (q : Int) (h : PN N q) : Ct G MX8_quarterOf (rmD 2) [rf G 41 0, .int (iI q)] (hp (sr m N)) (.inl (some (.int (iI (quartN N q))))) (hp (sr m N)) := by
  refine x_entry (by decide +kernel) mwX8_quarterOf rfl (Nat.le_of_ble_eq_true rfl) ?_
  show X G MX8_quarterOf (rmD 2) 0 [(0, rf G 41 0), (1, .int (iI q))] [] (hp (sr m N)) 0 0 (.inl (some (.int (iI (quartN N q))))) (hp (sr m N))
  have hb := roomN_b h
  have h0 := h
  obtain ⟨hq, h1, h2, h3, h4⟩ := h
  have hd0 : 0 ≤ 4 * N (30 + 7 * q + 1) / roomN N q := Int.ediv_nonneg (by omega) (by omega)
  have hd1 : 4 * N (30 + 7 * q + 1) / roomN N q ≤ 4000000 := Int.le_trans (Int.ediv_le_self _ (by omega)) (by omega)
  refine x_ldc2 (pc := 0) (z := 3) dX8_quarterOf_0 kcX8_195 (by decide) ?_
  refine x_ldc2 (pc := 3) (z := 4) dX8_quarterOf_3 kcX8_197 (by decide) ?_
  refine x_aload_n (pc := 6) dX8_quarterOf_6 0 rfl ?_
  refine x_iload_n (pc := 7) dX8_quarterOf_7 1 rfl ?_
  refine x_iconst (pc := 8) dX8_quarterOf_8 ?_
  refine x_callV (pc := 9) _ dX8_quarterOf_9 (mq_ofPack (q) 1 (by omega)) lkX8_189 rfl rfl rfl rfl (mem_dom0 (by decide) (by decide)) (by decide) (Nat.le_of_ble_eq_true rfl) rfl ?_
  refine x_i2l (pc := 12) dX8_quarterOf_12 (by unfold inI; omega) ?_
  refine x_lmul (pc := 13) dX8_quarterOf_13 ?_
  refine x_aload_n (pc := 14) dX8_quarterOf_14 0 rfl ?_
  refine x_iload_n (pc := 15) dX8_quarterOf_15 1 rfl ?_
  refine x_callV (pc := 16) _ dX8_quarterOf_16 (mq_roomOf q h0) lkX8_199 rfl rfl rfl rfl (mem_dom0 (by decide) (by decide)) (by decide) (Nat.le_of_ble_eq_true rfl) rfl ?_
  refine x_i2l (pc := 19) dX8_quarterOf_19 (by unfold inI; omega) ?_
  refine x_ldiv (pc := 20) dX8_quarterOf_20 (by omega) (by omega) ?_
  refine x_minl (pc := 21) dX8_quarterOf_21 lmX8_203 (by unfold inL; omega) (by unfold inL; omega) (by decide) (Nat.le_of_ble_eq_true rfl) (by decide) (by decide) ?_
  refine x_l2i (pc := 24) dX8_quarterOf_24 ?_
  exact y_iret (pc := 25) dX8_quarterOf_25 rfl rfl rfl

theorem mq_weightOf {G : GG} {m : Mem} {N : Int → Int} (q : Int) (h : PN N q) (h5 : QN N q) : Ct G MX8_weightOf (rmD 3) [rf G 41 0, .int (iI q)] (hp (sr m N)) (.inl (some (.int (iI (weightN N q))))) (hp (sr m N)) := by
  refine x_entry (by decide +kernel) mwX8_weightOf rfl (Nat.le_of_ble_eq_true rfl) ?_
  show X G MX8_weightOf (rmD 3) 0 [(0, rf G 41 0), (1, .int (iI q))] [] (hp (sr m N)) 0 0 (.inl (some (.int (iI (weightN N q))))) (hp (sr m N))
  have hb := quartN_b h
  have hq := h.1
  have h6 := h5.1
  refine x_aload_n (pc := 0) dX8_weightOf_0 0 rfl ?_
  refine x_iload_n (pc := 1) dX8_weightOf_1 1 rfl ?_
  refine x_iconst (pc := 2) dX8_weightOf_2 ?_
  refine x_callV (pc := 3) _ dX8_weightOf_3 (mq_ofPack (q) 3 (by omega)) lkX8_189 rfl rfl rfl rfl (mem_dom0 (by decide) (by decide)) (by decide) (Nat.le_of_ble_eq_true rfl) rfl ?_
  refine x_istore_n (pc := 6) (lv' := [(2, _), (0, _), (1, _)]) dX8_weightOf_6 rfl (by decide) rfl ?_
  refine x_iload_n (pc := 7) dX8_weightOf_7 0 rfl ?_
  refine x_iconst (pc := 8) dX8_weightOf_8 ?_
  refine x_icmp_ne (pc := 9) 16 dX8_weightOf_9 (by decide) (by unfold inI; omega) (by unfold inI; omega) (fun c_9 => ?_) (fun c_9 => ?_)
  · refine x_aload_n (pc := 16) dX8_weightOf_16 1 rfl ?_
    refine y_getR (pc := 17) dX8_weightOf_17 flX8_9 rfl rfl rfl (by decide) ?_
    refine x_bipush (pc := 20) (z := 14) dX8_weightOf_20 (by decide) ?_
    refine x_iconst (pc := 22) dX8_weightOf_22 ?_
    refine x_iload_n (pc := 23) dX8_weightOf_23 0 rfl ?_
    refine x_imul (pc := 24) dX8_weightOf_24 ?_
    refine x_iadd (pc := 25) dX8_weightOf_25 ?_
    refine x_aload_n (pc := 26) dX8_weightOf_26 1 rfl ?_
    refine x_iload_n (pc := 27) dX8_weightOf_27 2 rfl ?_
    refine x_callV (pc := 28) _ dX8_weightOf_28 (mq_quarterOf q h) lkX8_206 rfl rfl rfl rfl (mem_dom0 (by decide) (by decide)) (by decide) (Nat.le_of_ble_eq_true rfl) rfl ?_
    refine x_iadd (pc := 31) dX8_weightOf_31 ?_
    refine y_nald (pc := 32) dX8_weightOf_32 (by omega) ?_
    exact y_iret (pc := 33) dX8_weightOf_33 rfl (by unfold weightN; first | rw [if_pos c_9] | rw [if_neg c_9]) rfl
  · refine x_iconst (pc := 12) dX8_weightOf_12 ?_
    refine x_goto (pc := 13) 33 dX8_weightOf_13 (by decide) ?_
    exact y_iret (pc := 33) dX8_weightOf_33 rfl (by unfold weightN; first | rw [if_pos c_9] | rw [if_neg c_9]) rfl

theorem mq_spills {G : GG} {m : Mem} {N : Int → Int} (q : Int) (h : PN N q) : Ct G MX8_spills (rmD 2) [rf G 41 0, .int (iI q)] (hp (sr m N)) (.inl none) (hp (sr m (spillN N q))) := by
  refine x_entry (by decide +kernel) mwX8_spills rfl (Nat.le_of_ble_eq_true rfl) ?_
  show X G MX8_spills (rmD 2) 0 [(0, rf G 41 0), (1, .int (iI q))] [] (hp (sr m N)) 0 0 (.inl none) (hp (sr m (spillN N q)))
  have hb := roomN_b h
  have hq := h.1
  have h1 := h.2.1
  have h4 := h.2.2.2.2
  refine x_iconst (pc := 0) dX8_spills_0 ?_
  refine x_aload_n (pc := 1) dX8_spills_1 0 rfl ?_
  refine x_iload_n (pc := 2) dX8_spills_2 1 rfl ?_
  refine x_iconst (pc := 3) dX8_spills_3 ?_
  refine x_callV (pc := 4) _ dX8_spills_4 (mq_ofPack (q) 1 (by omega)) lkX8_189 rfl rfl rfl rfl (mem_dom0 (by decide) (by decide)) (by decide) (Nat.le_of_ble_eq_true rfl) rfl ?_
  refine x_aload_n (pc := 7) dX8_spills_7 0 rfl ?_
  refine x_iload_n (pc := 8) dX8_spills_8 1 rfl ?_
  refine x_callV (pc := 9) _ dX8_spills_9 (mq_roomOf q h) lkX8_199 rfl rfl rfl rfl (mem_dom0 (by decide) (by decide)) (by decide) (Nat.le_of_ble_eq_true rfl) rfl ?_
  refine x_isub (pc := 12) dX8_spills_12 ?_
  refine x_max (pc := 13) dX8_spills_13 lmX8_192 (by unfold inI; omega) (by unfold inI; omega) (by decide) (Nat.le_of_ble_eq_true rfl) (by decide) (by decide) ?_
  refine x_istore_n (pc := 16) (lv' := [(2, _), (0, _), (1, _)]) dX8_spills_16 rfl (by decide) rfl ?_
  refine x_aload_n (pc := 17) dX8_spills_17 1 rfl ?_
  refine x_iload_n (pc := 18) dX8_spills_18 2 rfl ?_
  refine x_iconst (pc := 19) dX8_spills_19 ?_
  refine x_iload_n (pc := 20) dX8_spills_20 0 rfl ?_
  refine x_ineg (pc := 21) dX8_spills_21 ?_
  refine x_callV (pc := 22) _ dX8_spills_22 (mq_growsPack q 1 (-spillA N q) (by omega)) lkX8_209 rfl rfl rfl rfl (mem_dom0 (by decide) (by decide)) (by decide) (Nat.le_of_ble_eq_true rfl) rfl ?_
  refine x_nil (m' := sr m (spill1 N q)) rfl ?_
  refine x_aload_n (pc := 25) dX8_spills_25 1 rfl ?_
  refine y_getR (pc := 26) dX8_spills_26 flX8_9 rfl rfl rfl (by decide) ?_
  refine x_bipush (pc := 29) (z := 13) dX8_spills_29 (by decide) ?_
  refine x_dup2 (pc := 31) dX8_spills_31 rfl rfl ?_
  refine y_nald (pc := 32) dX8_spills_32 (by omega) ?_
  refine x_iload_n (pc := 33) dX8_spills_33 0 rfl ?_
  refine x_iadd (pc := 34) dX8_spills_34 ?_
  refine y_nast (pc := 35) dX8_spills_35 (by omega) ?_
  exact y_vret (pc := 36) dX8_spills_36 rfl rfl

theorem mq_gets {G : GG} {m : Mem} {N : Int → Int} (q x : Int) (h : PN N q) (hx : 0 ≤ N (30 + 7 * q + 1) + x ∧ N (30 + 7 * q + 1) + x ≤ 1000000) : Ct G MX8_gets (rmD 3) [rf G 41 0, .int (iI q), .int (iI x)] (hp (sr m N)) (.inl none) (hp (sr m (getN N q x))) := by
  refine x_entry (by decide +kernel) mwX8_gets rfl (Nat.le_of_ble_eq_true rfl) ?_
  show X G MX8_gets (rmD 3) 0 [(0, rf G 41 0), (1, .int (iI q)), (2, .int (iI x))] [] (hp (sr m N)) 0 0 (.inl none) (hp (sr m (getN N q x)))
  have hq := h.1
  have h2 : PN (upN N (30 + 7 * q + 1) (N (30 + 7 * q + 1) + x)) q := by
    unfold PN
    rw [upN_off (by omega), upN_off (by omega), upN_off (by omega), upN_at]
    exact ⟨h.1, h.2.1, h.2.2.1, h.2.2.2.1, hx⟩
  refine x_aload_n (pc := 0) dX8_gets_0 0 rfl ?_
  refine x_iload_n (pc := 1) dX8_gets_1 1 rfl ?_
  refine x_iconst (pc := 2) dX8_gets_2 ?_
  refine x_iload_n (pc := 3) dX8_gets_3 2 rfl ?_
  refine x_callV (pc := 4) _ dX8_gets_4 (mq_growsPack q 1 x (by omega)) lkX8_209 rfl rfl rfl rfl (mem_dom0 (by decide) (by decide)) (by decide) (Nat.le_of_ble_eq_true rfl) rfl ?_
  refine x_aload_n (pc := 7) dX8_gets_7 0 rfl ?_
  refine x_iload_n (pc := 8) dX8_gets_8 1 rfl ?_
  refine x_callV (pc := 9) _ dX8_gets_9 (mq_spills q h2) lkX8_213 rfl rfl rfl rfl (mem_dom0 (by decide) (by decide)) (by decide) (Nat.le_of_ble_eq_true rfl) rfl ?_
  exact y_vret (pc := 12) dX8_gets_12 rfl rfl

theorem mq_gives {G : GG} {m : Mem} {N : Int → Int} (q x : Int) (h : PN N q) (h5 : QN N q) (hx : 0 ≤ x ∧ x ≤ N (30 + 7 * q + 1) ∧ x ≤ 1000000) : Ct G MX8_gives (rmD 4) [rf G 41 0, .int (iI q), .int (iI x)] (hp (sr m N)) (.inl none) (hp (sr m (giveN N q x))) := by
  refine x_entry (by decide +kernel) mwX8_gives rfl (Nat.le_of_ble_eq_true rfl) ?_
  show X G MX8_gives (rmD 4) 0 [(0, rf G 41 0), (1, .int (iI q)), (2, .int (iI x))] [] (hp (sr m N)) 0 0 (.inl none) (hp (sr m (giveN N q x)))
  have hq := h.1
  have hp := h.2.2.1
  have hch := h.2.2.2.2
  have w2 := h5.2
  have w0 : 0 ≤ x * weightN N q := Int.mul_nonneg hx.1 h5.2.1
  have w1 : x * weightN N q ≤ 1000000 * 1000 := Int.mul_le_mul hx.2.2 h5.2.2 h5.2.1 (by omega)
  have h2 : PN (upN (give1 N q x) (30 + 7 * q + 1) (give1 N q x (30 + 7 * q + 1) + -x)) q := by
    unfold PN give1
    rw [upN_off (by omega), upN_off (by omega), upN_off (by omega), upN_at, upN_off (show (0 : Int) ≠ _ by omega), upN_off (show (0 : Int) ≠ _ by omega), upN_at, upN_off (by omega)]
    exact ⟨h.1, h.2.1, by omega, h.2.2.2.1, by omega⟩
  refine x_aload_n (pc := 0) dX8_gives_0 0 rfl ?_
  refine x_iload_n (pc := 1) dX8_gives_1 1 rfl ?_
  refine x_iconst (pc := 2) dX8_gives_2 ?_
  refine x_callV (pc := 3) _ dX8_gives_3 (mq_ofPack (q) 2 (by omega)) lkX8_189 rfl rfl rfl rfl (mem_dom0 (by decide) (by decide)) (by decide) (Nat.le_of_ble_eq_true rfl) rfl ?_
  refine x_i2l (pc := 6) dX8_gives_6 (by unfold inI; omega) ?_
  refine x_iload_n (pc := 7) dX8_gives_7 2 rfl ?_
  refine x_i2l (pc := 8) dX8_gives_8 (by unfold inI; omega) ?_
  refine x_aload_n (pc := 9) dX8_gives_9 0 rfl ?_
  refine x_iload_n (pc := 10) dX8_gives_10 1 rfl ?_
  refine x_callV (pc := 11) _ dX8_gives_11 (mq_weightOf q h h5) lkX8_216 rfl rfl rfl rfl (mem_dom0 (by decide) (by decide)) (by decide) (Nat.le_of_ble_eq_true rfl) rfl ?_
  refine x_i2l (pc := 14) dX8_gives_14 (by unfold inI; omega) ?_
  refine x_lmul (pc := 15) dX8_gives_15 ?_
  refine x_ladd (pc := 16) dX8_gives_16 ?_
  refine x_lstore_n (pc := 17) (lv' := [(3, _), (0, _), (1, _), (2, _)]) dX8_gives_17 rfl (by decide) rfl ?_
  refine x_aload_n (pc := 18) dX8_gives_18 1 rfl ?_
  refine y_getR (pc := 19) dX8_gives_19 flX8_9 rfl rfl rfl (by decide) ?_
  refine x_bipush (pc := 22) (z := 30) dX8_gives_22 (by decide) ?_
  refine x_bipush (pc := 24) (z := 7) dX8_gives_24 (by decide) ?_
  refine x_iload_n (pc := 26) dX8_gives_26 2 rfl ?_
  refine x_imul (pc := 27) dX8_gives_27 ?_
  refine x_iadd (pc := 28) dX8_gives_28 ?_
  refine x_iconst (pc := 29) dX8_gives_29 ?_
  refine x_iadd (pc := 30) dX8_gives_30 ?_
  refine x_ldc2 (pc := 31) (z := 1000000000) dX8_gives_31 kcX8_219 (by decide) ?_
  refine x_lload_n (pc := 34) dX8_gives_34 0 rfl ?_
  refine x_minl (pc := 35) dX8_gives_35 lmX8_203 (by unfold inL; omega) (by unfold inL; omega) (by decide) (Nat.le_of_ble_eq_true rfl) (by decide) (by decide) ?_
  refine x_l2i (pc := 38) dX8_gives_38 ?_
  refine y_nast (pc := 39) dX8_gives_39 (by omega) ?_
  refine x_nil (m' := sr m (give1 N q x)) rfl ?_
  refine x_aload_n (pc := 40) dX8_gives_40 1 rfl ?_
  refine x_iload_n (pc := 41) dX8_gives_41 2 rfl ?_
  refine x_iconst (pc := 42) dX8_gives_42 ?_
  refine x_iload_n (pc := 43) dX8_gives_43 3 rfl ?_
  refine x_ineg (pc := 44) dX8_gives_44 ?_
  refine x_callV (pc := 45) _ dX8_gives_45 (mq_growsPack q 1 (-x) (by omega)) lkX8_209 rfl rfl rfl rfl (mem_dom0 (by decide) (by decide)) (by decide) (Nat.le_of_ble_eq_true rfl) rfl ?_
  refine x_aload_n (pc := 48) dX8_gives_48 1 rfl ?_
  refine x_iload_n (pc := 49) dX8_gives_49 2 rfl ?_
  refine x_callV (pc := 50) _ dX8_gives_50 (mq_spills q h2) lkX8_213 rfl rfl rfl rfl (mem_dom0 (by decide) (by decide)) (by decide) (Nat.le_of_ble_eq_true rfl) rfl ?_
  exact y_vret (pc := 53) dX8_gives_53 rfl rfl

theorem mq_interestOf {G : GG} {m : Mem} {N : Int → Int} (x : Int) (hx : 0 ≤ x ∧ x ≤ 100000000) (hf : 1 ≤ N 1 ∧ N 1 ≤ 10000) : Ct G MX8_interestOf (rmD 0) [rf G 41 0, .int (iI x)] (hp (sr m N)) (.inl (some (.int (iI (intN N x))))) (hp (sr m N)) := by
  refine x_entry (by decide +kernel) mwX8_interestOf rfl (Nat.le_of_ble_eq_true rfl) ?_
  show X G MX8_interestOf (rmD 0) 0 [(0, rf G 41 0), (1, .int (iI x))] [] (hp (sr m N)) 0 0 (.inl (some (.int (iI (intN N x))))) (hp (sr m N))
  refine x_iload_n (pc := 0) dX8_interestOf_0 1 rfl ?_
  refine x_aload_n (pc := 1) dX8_interestOf_1 0 rfl ?_
  refine y_getR (pc := 2) dX8_interestOf_2 flX8_9 rfl rfl rfl (by decide) ?_
  refine x_iconst (pc := 5) dX8_interestOf_5 ?_
  refine y_nald (pc := 6) dX8_interestOf_6 (by omega) ?_
  refine x_iadd (pc := 7) dX8_interestOf_7 ?_
  refine x_iconst (pc := 8) dX8_interestOf_8 ?_
  refine x_isub (pc := 9) dX8_interestOf_9 ?_
  refine x_aload_n (pc := 10) dX8_interestOf_10 0 rfl ?_
  refine y_getR (pc := 11) dX8_interestOf_11 flX8_9 rfl rfl rfl (by decide) ?_
  refine x_iconst (pc := 14) dX8_interestOf_14 ?_
  refine y_nald (pc := 15) dX8_interestOf_15 (by omega) ?_
  refine x_idiv (pc := 16) dX8_interestOf_16 (by omega) (by omega) ?_
  exact y_iret (pc := 17) dX8_interestOf_17 rfl rfl rfl

theorem mq_isOpen {G : GG} {m : Mem} {N : Int → Int} (l : Int) (hl : 0 ≤ l ∧ l < 16) (hi : inI (N (318 + 7 * l + 5))) : Ct G MX8_isOpen (rmD 1) [rf G 41 0, .int (iI l)] (hp (sr m N)) (.inl (some (.int (iI (if N (318 + 7 * l + 5) ≤ 2 then 1 else 0))))) (hp (sr m N)) := by
  refine x_entry (by decide +kernel) mwX8_isOpen rfl (Nat.le_of_ble_eq_true rfl) ?_
  show X G MX8_isOpen (rmD 1) 0 [(0, rf G 41 0), (1, .int (iI l))] [] (hp (sr m N)) 0 0 (.inl (some (.int (iI (if N (318 + 7 * l + 5) ≤ 2 then 1 else 0))))) (hp (sr m N))
  refine x_aload_n (pc := 0) dX8_isOpen_0 0 rfl ?_
  refine x_iload_n (pc := 1) dX8_isOpen_1 1 rfl ?_
  refine x_iconst (pc := 2) dX8_isOpen_2 ?_
  refine x_callV (pc := 3) _ dX8_isOpen_3 (mq_ofLoan l 5 (by omega)) lkX8_50 rfl rfl rfl rfl (mem_dom0 (by decide) (by decide)) (by decide) (Nat.le_of_ble_eq_true rfl) rfl ?_
  refine x_iconst (pc := 6) dX8_isOpen_6 ?_
  refine x_icmp_gt (pc := 7) 14 dX8_isOpen_7 (by decide) hi (by unfold inI; omega) (fun c_7 => ?_) (fun c_7 => ?_)
  · refine x_iconst (pc := 14) dX8_isOpen_14 ?_
    exact y_z0ret (pc := 15) dX8_isOpen_15 rfl (by omega) rfl
  · refine x_iconst (pc := 10) dX8_isOpen_10 ?_
    refine x_goto (pc := 11) 15 dX8_isOpen_11 (by decide) ?_
    exact y_z1ret (pc := 15) dX8_isOpen_15 rfl (by omega) rfl

/-- facts of one loan, in the row -/
def LN (N : Int → Int) (l : Int) : Prop := (0 ≤ N (318 + 7 * l + 0) ∧ N (318 + 7 * l + 0) < 8) ∧ (0 ≤ N (318 + 7 * l + 1) ∧ N (318 + 7 * l + 1) ≤ 100000) ∧ (0 ≤ N (318 + 7 * l + 2) ∧ N (318 + 7 * l + 2) ≤ N (318 + 7 * l + 1)) ∧ (0 ≤ N (318 + 7 * l + 3) ∧ N (318 + 7 * l + 3) ≤ 100000000) ∧ (0 ≤ N (318 + 7 * l + 4) ∧ N (318 + 7 * l + 4) ≤ 200000000) ∧ (0 ≤ N (318 + 7 * l + 5) ∧ N (318 + 7 * l + 5) ≤ 5) ∧ (1 ≤ N 1 ∧ N 1 ≤ 10000)
theorem LN_of {m : Mem} {p s : Nat} {N : Int → Int} {l : Int} (hP : BP m p) (hB : BS m p s) (hR : RP m p N) (hS : RS m p s N) (h0 : 0 ≤ l) (h1 : l < m 2 s 0) : LN N l := by
  have a := BS_lf hP hB h0 h1
  have c := hS.2.2.2.2.2.2 l h0 h1
  unfold LN
  rw [c.1, c.2.1, c.2.2.1, c.2.2.2.1, c.2.2.2.2.1, c.2.2.2.2.2.1, hR.1.2.1]
  exact a
theorem intN_b {N : Int → Int} {x : Int} (hx : 0 ≤ x ∧ x ≤ 100000000) (hf : 1 ≤ N 1 ∧ N 1 ≤ 10000) : 0 ≤ intN N x ∧ intN N x ≤ x := by
  unfold intN
  refine ⟨Int.ediv_nonneg (by omega) (by omega), ?_⟩
  have h1 : x + N 1 - 1 < (x + 1) * N 1 := by
    have : x * 1 ≤ x * N 1 := Int.mul_le_mul_of_nonneg_left hf.1 hx.1
    rw [Int.add_mul]; omega
  have h2 := Int.ediv_lt_of_lt_mul (by omega : 0 < N 1) h1
  omega
theorem owedN_b {N : Int → Int} {l : Int} (h : LN N l) : 0 ≤ owedN N l ∧ owedN N l ≤ 100100000 := by
  obtain ⟨h1, h2, h3, h4, h5, h6, h7⟩ := h
  have hb := intN_b h4 h7
  unfold owedN
  split <;> omega

theorem mq_owed {G : GG} {m : Mem} {N : Int → Int} (l : Int) (hl : 0 ≤ l ∧ l < 16) (h : LN N l) : Ct G MX8_owed (rmD 2) [rf G 41 0, .int (iI l)] (hp (sr m N)) (.inl (some (.int (iI (owedN N l))))) (hp (sr m N)) := by
  refine x_entry (by decide +kernel) mwX8_owed rfl (Nat.le_of_ble_eq_true rfl) ?_
  show X G MX8_owed (rmD 2) 0 [(0, rf G 41 0), (1, .int (iI l))] [] (hp (sr m N)) 0 0 (.inl (some (.int (iI (owedN N l))))) (hp (sr m N))
  obtain ⟨h1, h2, h3, h4, h5, h6, h7⟩ := h
  have hb := intN_b h4 h7
  refine x_aload_n (pc := 0) dX8_owed_0 0 rfl ?_
  refine x_iload_n (pc := 1) dX8_owed_1 1 rfl ?_
  refine x_callV (pc := 2) _ dX8_owed_2 (mq_isOpen l hl (by unfold inI; omega)) lkX8_221 rfl rfl rfl rfl (mem_dom0 (by decide) (by decide)) (by decide) (Nat.le_of_ble_eq_true rfl) rfl ?_
  refine x_ifb_ne (pc := 5) 10 dX8_owed_5 (by decide) (fun c_5 => ?_) (fun c_5 => ?_)
  · refine x_iconst (pc := 10) dX8_owed_10 ?_
    refine x_aload_n (pc := 11) dX8_owed_11 0 rfl ?_
    refine x_iload_n (pc := 12) dX8_owed_12 1 rfl ?_
    refine x_iconst (pc := 13) dX8_owed_13 ?_
    refine x_callV (pc := 14) _ dX8_owed_14 (mq_ofLoan (l) 2 (by omega)) lkX8_50 rfl rfl rfl rfl (mem_dom0 (by decide) (by decide)) (by decide) (Nat.le_of_ble_eq_true rfl) rfl ?_
    refine x_aload_n (pc := 17) dX8_owed_17 0 rfl ?_
    refine x_aload_n (pc := 18) dX8_owed_18 0 rfl ?_
    refine x_iload_n (pc := 19) dX8_owed_19 1 rfl ?_
    refine x_iconst (pc := 20) dX8_owed_20 ?_
    refine x_callV (pc := 21) _ dX8_owed_21 (mq_ofLoan (l) 3 (by omega)) lkX8_50 rfl rfl rfl rfl (mem_dom0 (by decide) (by decide)) (by decide) (Nat.le_of_ble_eq_true rfl) rfl ?_
    refine x_callV (pc := 24) _ dX8_owed_24 (mq_interestOf _ h4 h7) lkX8_251 rfl rfl rfl rfl (mem_dom0 (by decide) (by decide)) (by decide) (Nat.le_of_ble_eq_true rfl) rfl ?_
    refine x_iadd (pc := 27) dX8_owed_27 ?_
    refine x_aload_n (pc := 28) dX8_owed_28 0 rfl ?_
    refine x_iload_n (pc := 29) dX8_owed_29 1 rfl ?_
    refine x_iconst (pc := 30) dX8_owed_30 ?_
    refine x_callV (pc := 31) _ dX8_owed_31 (mq_ofLoan (l) 4 (by omega)) lkX8_50 rfl rfl rfl rfl (mem_dom0 (by decide) (by decide)) (by decide) (Nat.le_of_ble_eq_true rfl) rfl ?_
    refine x_isub (pc := 34) dX8_owed_34 ?_
    refine x_max (pc := 35) dX8_owed_35 lmX8_192 (by unfold inI; omega) (by unfold inI; omega) (by decide) (Nat.le_of_ble_eq_true rfl) (by decide) (by decide) ?_
    exact y_iret (pc := 38) dX8_owed_38 rfl (by unfold owedN; first | rw [if_pos (by assumption)] | rw [if_neg (by assumption)]) rfl
  · refine x_iconst (pc := 8) dX8_owed_8 ?_
    exact y_iret (pc := 9) dX8_owed_9 rfl (by unfold owedN; first | rw [if_pos (by assumption)] | rw [if_neg (by assumption)]) rfl

theorem mq_pointsFor {G : GG} {m : Mem} {N : Int → Int} (q x : Int) (h : PN N q) (h5 : QN N q) (hx : 0 ≤ x ∧ x ≤ 1000000) : Ct G MX8_pointsFor (rmD 4) [rf G 41 0, .int (iI q), .int (iI x)] (hp (sr m N)) (.inl (some (.int (iI (pfN N q x))))) (hp (sr m N)) := by
  refine x_entry (by decide +kernel) mwX8_pointsFor rfl (Nat.le_of_ble_eq_true rfl) ?_
  show X G MX8_pointsFor (rmD 4) 0 [(0, rf G 41 0), (1, .int (iI q)), (2, .int (iI x))] [] (hp (sr m N)) 0 0 (.inl (some (.int (iI (pfN N q x))))) (hp (sr m N))
  have w0 : 0 ≤ x * weightN N q := Int.mul_nonneg hx.1 h5.2.1
  have w1 : x * weightN N q ≤ 1000000 * 1000 := Int.mul_le_mul hx.2 h5.2.2 h5.2.1 (by omega)
  have w2 := h5.2
  refine x_ldc2 (pc := 0) (z := 100000000) dX8_pointsFor_0 kcX8_276 (by decide) ?_
  refine x_iload_n (pc := 3) dX8_pointsFor_3 2 rfl ?_
  refine x_i2l (pc := 4) dX8_pointsFor_4 (by unfold inI; omega) ?_
  refine x_aload_n (pc := 5) dX8_pointsFor_5 0 rfl ?_
  refine x_iload_n (pc := 6) dX8_pointsFor_6 1 rfl ?_
  refine x_callV (pc := 7) _ dX8_pointsFor_7 (mq_weightOf q h h5) lkX8_216 rfl rfl rfl rfl (mem_dom0 (by decide) (by decide)) (by decide) (Nat.le_of_ble_eq_true rfl) rfl ?_
  refine x_i2l (pc := 10) dX8_pointsFor_10 (by unfold inI; omega) ?_
  refine x_lmul (pc := 11) dX8_pointsFor_11 ?_
  refine x_minl (pc := 12) dX8_pointsFor_12 lmX8_203 (by unfold inL; omega) (by unfold inL; omega) (by decide) (Nat.le_of_ble_eq_true rfl) (by decide) (by decide) ?_
  refine x_l2i (pc := 15) dX8_pointsFor_15 ?_
  exact y_iret (pc := 16) dX8_pointsFor_16 rfl rfl rfl

theorem mq_interestFor {G : GG} {m : Mem} {N : Int → Int} (c x : Int) (hc : 0 ≤ c ∧ c < 8) (h : PN N (N (270 + 6 * c + 0))) (h5 : QN N (N (270 + 6 * c + 0))) (hx : 0 ≤ x ∧ x ≤ 1000000) (hf : 1 ≤ N 1 ∧ N 1 ≤ 10000) : Ct G MX8_interestFor (rmD 5) [rf G 41 0, .int (iI c), .int (iI x)] (hp (sr m N)) (.inl (some (.int (iI (intN N (pfN N (N (270 + 6 * c + 0)) x)))))) (hp (sr m N)) := by
  refine x_entry (by decide +kernel) mwX8_interestFor rfl (Nat.le_of_ble_eq_true rfl) ?_
  show X G MX8_interestFor (rmD 5) 0 [(0, rf G 41 0), (1, .int (iI c)), (2, .int (iI x))] [] (hp (sr m N)) 0 0 (.inl (some (.int (iI (intN N (pfN N (N (270 + 6 * c + 0)) x)))))) (hp (sr m N))
  have w0 : 0 ≤ x * weightN N (N (270 + 6 * c + 0)) := Int.mul_nonneg hx.1 h5.2.1
  have pb : 0 ≤ pfN N (N (270 + 6 * c + 0)) x ∧ pfN N (N (270 + 6 * c + 0)) x ≤ 100000000 := by unfold pfN; omega
  refine x_aload_n (pc := 0) dX8_interestFor_0 0 rfl ?_
  refine x_aload_n (pc := 1) dX8_interestFor_1 0 rfl ?_
  refine x_aload_n (pc := 2) dX8_interestFor_2 0 rfl ?_
  refine x_iload_n (pc := 3) dX8_interestFor_3 1 rfl ?_
  refine x_iconst (pc := 4) dX8_interestFor_4 ?_
  refine x_callV (pc := 5) _ dX8_interestFor_5 (mq_ofContract c 0 (by omega)) lkX8_54 rfl rfl rfl rfl (mem_dom0 (by decide) (by decide)) (by decide) (Nat.le_of_ble_eq_true rfl) rfl ?_
  refine x_iload_n (pc := 8) dX8_interestFor_8 2 rfl ?_
  refine x_callV (pc := 9) _ dX8_interestFor_9 (mq_pointsFor _ x h h5 hx) lkX8_278 rfl rfl rfl rfl (mem_dom0 (by decide) (by decide)) (by decide) (Nat.le_of_ble_eq_true rfl) rfl ?_
  refine x_callV (pc := 12) _ dX8_interestFor_12 (mq_interestOf _ pb hf) lkX8_251 rfl rfl rfl rfl (mem_dom0 (by decide) (by decide)) (by decide) (Nat.le_of_ble_eq_true rfl) rfl ?_
  exact y_iret (pc := 15) dX8_interestFor_15 rfl rfl rfl

theorem mq_above {G : GG} {m : Mem} {N : Int → Int} (q : Int) (hq : 0 ≤ q ∧ q < 8) : Ct G MX8_above (rmD 1) [rf G 41 0, .int (iI q)] (hp (sr m N)) (.inl (some (.int (iI (aboveN N q))))) (hp (sr m N)) := by
  refine x_entry (by decide +kernel) mwX8_above rfl (Nat.le_of_ble_eq_true rfl) ?_
  show X G MX8_above (rmD 1) 0 [(0, rf G 41 0), (1, .int (iI q))] [] (hp (sr m N)) 0 0 (.inl (some (.int (iI (aboveN N q))))) (hp (sr m N))
  refine x_aload_n (pc := 0) dX8_above_0 0 rfl ?_
  refine x_iload_n (pc := 1) dX8_above_1 1 rfl ?_
  refine x_iconst (pc := 2) dX8_above_2 ?_
  refine x_callV (pc := 3) _ dX8_above_3 (mq_ofPack (q) 1 (by omega)) lkX8_189 rfl rfl rfl rfl (mem_dom0 (by decide) (by decide)) (by decide) (Nat.le_of_ble_eq_true rfl) rfl ?_
  refine x_aload_n (pc := 6) dX8_above_6 0 rfl ?_
  refine x_iload_n (pc := 7) dX8_above_7 1 rfl ?_
  refine x_iconst (pc := 8) dX8_above_8 ?_
  refine x_callV (pc := 9) _ dX8_above_9 (mq_ofPack (q) 4 (by omega)) lkX8_189 rfl rfl rfl rfl (mem_dom0 (by decide) (by decide)) (by decide) (Nat.le_of_ble_eq_true rfl) rfl ?_
  refine x_isub (pc := 12) dX8_above_12 ?_
  exact y_iret (pc := 13) dX8_above_13 rfl rfl rfl

theorem mq_free {G : GG} {m : Mem} {N : Int → Int} (c : Int) (hc : 0 ≤ c ∧ c < 12) (h3 : inI (N (86 + 6 * c + 3) - N (86 + 6 * c + 4))) : Ct G MX8_free (rmD 1) [rf G 41 0, .int (iI c)] (hp (sr m N)) (.inl (some (.int (iI (freeN N c))))) (hp (sr m N)) := by
  refine x_entry (by decide +kernel) mwX8_free rfl (Nat.le_of_ble_eq_true rfl) ?_
  show X G MX8_free (rmD 1) 0 [(0, rf G 41 0), (1, .int (iI c))] [] (hp (sr m N)) 0 0 (.inl (some (.int (iI (freeN N c))))) (hp (sr m N))
  refine x_iconst (pc := 0) dX8_free_0 ?_
  refine x_aload_n (pc := 1) dX8_free_1 0 rfl ?_
  refine x_iload_n (pc := 2) dX8_free_2 1 rfl ?_
  refine x_iconst (pc := 3) dX8_free_3 ?_
  refine x_callV (pc := 4) _ dX8_free_4 (mq_ofCable c 3 (by omega)) lkX8_237 rfl rfl rfl rfl (mem_dom0 (by decide) (by decide)) (by decide) (Nat.le_of_ble_eq_true rfl) rfl ?_
  refine x_aload_n (pc := 7) dX8_free_7 0 rfl ?_
  refine x_iload_n (pc := 8) dX8_free_8 1 rfl ?_
  refine x_iconst (pc := 9) dX8_free_9 ?_
  refine x_callV (pc := 10) _ dX8_free_10 (mq_ofCable c 4 (by omega)) lkX8_237 rfl rfl rfl rfl (mem_dom0 (by decide) (by decide)) (by decide) (Nat.le_of_ble_eq_true rfl) rfl ?_
  refine x_isub (pc := 13) dX8_free_13 ?_
  refine x_max (pc := 14) dX8_free_14 lmX8_192 (by unfold inI; omega) h3 (by decide) (Nat.le_of_ble_eq_true rfl) (by decide) (by decide) ?_
  exact y_iret (pc := 17) dX8_free_17 rfl (by unfold freeN; rfl) rfl

theorem mq_lossOf {G : GG} {m : Mem} (x ls : Int) (hx : 0 ≤ x ∧ x ≤ 1000000) (hl : 0 ≤ ls ∧ ls ≤ 900) : Ct G MX8_lossOf (rmD 0) [.int (iI x), .int (iI ls)] (hp (m)) (.inl (some (.int (iI (x * ls / 1000))))) (hp (m)) := by
  refine x_entry (by decide +kernel) mwX8_lossOf rfl (Nat.le_of_ble_eq_true rfl) ?_
  show X G MX8_lossOf (rmD 0) 0 [(0, .int (iI x)), (1, .int (iI ls))] [] (hp (m)) 0 0 (.inl (some (.int (iI (x * ls / 1000))))) (hp (m))
  have h1 : x * ls ≤ x * 900 := Int.mul_le_mul_of_nonneg_left hl.2 hx.1
  have h2 : 0 ≤ x * ls := Int.mul_nonneg hx.1 hl.1
  refine x_iload_n (pc := 0) dX8_lossOf_0 0 rfl ?_
  refine x_i2l (pc := 1) dX8_lossOf_1 (by unfold inI; omega) ?_
  refine x_iload_n (pc := 2) dX8_lossOf_2 1 rfl ?_
  refine x_i2l (pc := 3) dX8_lossOf_3 (by unfold inI; omega) ?_
  refine x_lmul (pc := 4) dX8_lossOf_4 ?_
  refine x_ldc2 (pc := 5) (z := 1000) dX8_lossOf_5 kcX8_293 (by decide) ?_
  refine x_ldiv (pc := 8) dX8_lossOf_8 (by omega) (by omega) ?_
  refine x_l2i (pc := 9) dX8_lossOf_9 ?_
  exact y_iret (pc := 10) dX8_lossOf_10 rfl rfl rfl
