theorem Q_saveSnapshot {G : GG} {m : Mem} {N : Int → Int} (hF : NF N) {a0 : Int} (ha0 : inI a0) (h0 : 0 ≤ a0 ∧ a0 ≤ 1)  : Ct G MX8_saveSnapshot (rmD 9) [rf G 41 0, .int (iI a0)] (hp (sr m N)) (.inl (some (.int (iI (N 2))))) (hp (sr (up3 (cpX (sr (thr m 0) N) 42 46 0 a0 430) 47 0 a0 1) N)) := by
  refine x_entry (by decide +kernel) mwX8_saveSnapshot rfl (Nat.le_of_ble_eq_true rfl) ?_
  show X G MX8_saveSnapshot (rmD 9) 0 [(0, rf G 41 0), (1, .int (iI a0))] [] (hp (sr m N)) 0 0 (.inl (some (.int (iI (N 2))))) (hp (sr (up3 (cpX (sr (thr m 0) N) 42 46 0 a0 430) 47 0 a0 1) N))
  have n8 := hF.1
  have n16 := hF.2.1
  have nc8 := hF.2.2.1
  have nl16 := hF.2.2.2.1.1
  refine x_aload_n (pc := 0) dX8_saveSnapshot_0 0 rfl ?_
  refine x_iload_n (pc := 1) dX8_saveSnapshot_1 1 rfl ?_
  refine x_i2l (pc := 2) dX8_saveSnapshot_2 ha0 ?_
  refine x_lconst (pc := 3) (z := 0) dX8_saveSnapshot_3 (by decide) ?_
  refine x_lconst (pc := 4) (z := 1) dX8_saveSnapshot_4 (by decide) ?_
  refine x_callS (pc := 5) _ dX8_saveSnapshot_5 (mq_in a0 0 1 (by unfold inL; unfold inI at ha0; omega) (by unfold inL; omega) (by unfold inL; omega)) lkX8_44 rfl (by decide) (Nat.le_of_ble_eq_true rfl) rfl ?_
  refine x_iconst (pc := 8) dX8_saveSnapshot_8 ?_
  refine x_callV (pc := 9) _ dX8_saveSnapshot_9 (mq_isThrown (b := 0 ≤ a0 ∧ a0 ≤ 1) 1) lkX8_227 rfl rfl rfl rfl (mem_dom0 (by decide) (by decide)) (by decide) (Nat.le_of_ble_eq_true rfl) rfl ?_
  refine x_nil (m' := sr (thr m 0) N) (by rw [if_pos h0]) ?_
  refine x_ifb_eq (pc := 12) 17 dX8_saveSnapshot_12 (by decide) (fun c_12 => ?_) (fun c_12 => absurd c_12 (fun z => z h0))
  refine x_aload_n (pc := 17) dX8_saveSnapshot_17 0 rfl ?_
  refine y_getR (pc := 18) dX8_saveSnapshot_18 flX8_9 rfl rfl rfl (by decide) ?_
  refine x_iconst (pc := 21) dX8_saveSnapshot_21 ?_
  refine x_aload_n (pc := 22) dX8_saveSnapshot_22 0 rfl ?_
  refine y_getR (pc := 23) dX8_saveSnapshot_23 flX8_22 rfl rfl rfl (by decide) ?_
  refine x_iload_n (pc := 26) dX8_saveSnapshot_26 1 rfl ?_
  refine x_callS (pc := 27) _ dX8_saveSnapshot_27 (mq_cp42_46 0 a0 (by omega) (by omega)) lkX8_183 rfl (by decide) (Nat.le_of_ble_eq_true rfl) rfl ?_
  refine x_aload_n (pc := 30) dX8_saveSnapshot_30 0 rfl ?_
  refine y_getR (pc := 31) dX8_saveSnapshot_31 flX8_25 rfl rfl rfl (by decide) ?_
  refine x_iload_n (pc := 34) dX8_saveSnapshot_34 1 rfl ?_
  refine x_iconst (pc := 35) dX8_saveSnapshot_35 ?_
  refine y_zast (pc := 36) dX8_saveSnapshot_36 rfl (by decide) (by omega) (Or.inr rfl) ?_
  refine x_nil (m' := sr (up3 (cpX (sr (thr m 0) N) 42 46 0 a0 430) 47 0 a0 1) N) (sr_keep (by rw [up3_ne (by decide), cpX_k (by decide)]; exact sr_42)) ?_
  refine x_aload_n (pc := 37) dX8_saveSnapshot_37 0 rfl ?_
  refine y_getR (pc := 38) dX8_saveSnapshot_38 flX8_9 rfl rfl rfl (by decide) ?_
  refine x_iconst (pc := 41) dX8_saveSnapshot_41 ?_
  refine y_nald (pc := 42) dX8_saveSnapshot_42 (by omega) ?_
  exact y_iret (pc := 43) dX8_saveSnapshot_43 rfl rfl rfl

theorem Qx_saveSnapshot_0 {G : GG} {m : Mem} {N : Int → Int} (hF : NF N) {a0 : Int} (ha0 : inI a0)  (h0 : ¬ (0 ≤ a0 ∧ a0 ≤ 1)) : Ct G MX8_saveSnapshot (rmD 9) [rf G 41 0, .int (iI a0)] (hp (sr m N)) (.inl (some (.int (iI (0))))) (hp (sr (thr m 1) N)) := by
  refine x_entry (by decide +kernel) mwX8_saveSnapshot rfl (Nat.le_of_ble_eq_true rfl) ?_
  show X G MX8_saveSnapshot (rmD 9) 0 [(0, rf G 41 0), (1, .int (iI a0))] [] (hp (sr m N)) 0 0 (.inl (some (.int (iI (0))))) (hp (sr (thr m 1) N))
  have n8 := hF.1
  have n16 := hF.2.1
  have nc8 := hF.2.2.1
  have nl16 := hF.2.2.2.1.1
  refine x_aload_n (pc := 0) dX8_saveSnapshot_0 0 rfl ?_
  refine x_iload_n (pc := 1) dX8_saveSnapshot_1 1 rfl ?_
  refine x_i2l (pc := 2) dX8_saveSnapshot_2 ha0 ?_
  refine x_lconst (pc := 3) (z := 0) dX8_saveSnapshot_3 (by decide) ?_
  refine x_lconst (pc := 4) (z := 1) dX8_saveSnapshot_4 (by decide) ?_
  refine x_callS (pc := 5) _ dX8_saveSnapshot_5 (mq_in a0 0 1 (by unfold inL; unfold inI at ha0; omega) (by unfold inL; omega) (by unfold inL; omega)) lkX8_44 rfl (by decide) (Nat.le_of_ble_eq_true rfl) rfl ?_
  refine x_iconst (pc := 8) dX8_saveSnapshot_8 ?_
  refine x_callV (pc := 9) _ dX8_saveSnapshot_9 (mq_isThrown (b := 0 ≤ a0 ∧ a0 ≤ 1) 1) lkX8_227 rfl rfl rfl rfl (mem_dom0 (by decide) (by decide)) (by decide) (Nat.le_of_ble_eq_true rfl) rfl ?_
  refine x_nil (m' := sr (thr m 1) N) (by rw [if_neg h0]) ?_
  refine x_ifb_eq (pc := 12) 17 dX8_saveSnapshot_12 (by decide) (fun c_12 => absurd c_12 (fun z => z h0)) (fun c_12 => ?_)
  refine x_iconst (pc := 15) dX8_saveSnapshot_15 ?_
  exact y_iret (pc := 16) dX8_saveSnapshot_16 rfl rfl rfl

theorem Q_restoreSnapshot0 {G : GG} {m : Mem} {N : Int → Int} (hF : NF N) {a0 : Int} (ha0 : inI a0) (h0 : 0 ≤ a0 ∧ a0 ≤ 1) (hi : inI (m 47 0 a0)) (hz : m 47 0 a0 = 0) : Ct G MX8_restoreSnapshot (rmD 9) [rf G 41 0, .int (iI a0)] (hp (sr m N)) (.inl (some (.int (iI (-1))))) (hp (sr (thr m 0) N)) := by
  refine x_entry (by decide +kernel) mwX8_restoreSnapshot rfl (Nat.le_of_ble_eq_true rfl) ?_
  show X G MX8_restoreSnapshot (rmD 9) 0 [(0, rf G 41 0), (1, .int (iI a0))] [] (hp (sr m N)) 0 0 (.inl (some (.int (iI (-1))))) (hp (sr (thr m 0) N))
  have n8 := hF.1
  have n16 := hF.2.1
  have nc8 := hF.2.2.1
  have nl16 := hF.2.2.2.1.1
  refine x_aload_n (pc := 0) dX8_restoreSnapshot_0 0 rfl ?_
  refine x_iload_n (pc := 1) dX8_restoreSnapshot_1 1 rfl ?_
  refine x_i2l (pc := 2) dX8_restoreSnapshot_2 ha0 ?_
  refine x_lconst (pc := 3) (z := 0) dX8_restoreSnapshot_3 (by decide) ?_
  refine x_lconst (pc := 4) (z := 1) dX8_restoreSnapshot_4 (by decide) ?_
  refine x_callS (pc := 5) _ dX8_restoreSnapshot_5 (mq_in a0 0 1 (by unfold inL; unfold inI at ha0; omega) (by unfold inL; omega) (by unfold inL; omega)) lkX8_44 rfl (by decide) (Nat.le_of_ble_eq_true rfl) rfl ?_
  refine x_iconst (pc := 8) dX8_restoreSnapshot_8 ?_
  refine x_callV (pc := 9) _ dX8_restoreSnapshot_9 (mq_isThrown (b := 0 ≤ a0 ∧ a0 ≤ 1) 1) lkX8_227 rfl rfl rfl rfl (mem_dom0 (by decide) (by decide)) (by decide) (Nat.le_of_ble_eq_true rfl) rfl ?_
  refine x_nil (m' := sr (thr m 0) N) (by rw [if_pos h0]) ?_
  refine x_ifb_eq (pc := 12) 17 dX8_restoreSnapshot_12 (by decide) (fun c_12 => ?_) (fun c_12 => absurd c_12 (fun z => z h0))
  refine x_aload_n (pc := 17) dX8_restoreSnapshot_17 0 rfl ?_
  refine y_getR (pc := 18) dX8_restoreSnapshot_18 flX8_25 rfl rfl rfl (by decide) ?_
  refine x_iload_n (pc := 21) dX8_restoreSnapshot_21 1 rfl ?_
  refine y_zald (pc := 22) dX8_restoreSnapshot_22 rfl (by decide) (by omega) ?_
  refine x_top (v' := .int (iI (m 47 0 a0))) rfl ?_
  refine x_if_ne (pc := 23) 28 dX8_restoreSnapshot_23 (by decide) hi (fun c_23 => absurd c_23 (fun z => z hz)) (fun c_23 => ?_)
  refine x_iconst (pc := 26) dX8_restoreSnapshot_26 ?_
  exact y_iret (pc := 27) dX8_restoreSnapshot_27 rfl rfl rfl

theorem Qx_restoreSnapshot_0 {G : GG} {m : Mem} {N : Int → Int} (hF : NF N) {a0 : Int} (ha0 : inI a0)  (h0 : ¬ (0 ≤ a0 ∧ a0 ≤ 1)) : Ct G MX8_restoreSnapshot (rmD 9) [rf G 41 0, .int (iI a0)] (hp (sr m N)) (.inl (some (.int (iI (0))))) (hp (sr (thr m 1) N)) := by
  refine x_entry (by decide +kernel) mwX8_restoreSnapshot rfl (Nat.le_of_ble_eq_true rfl) ?_
  show X G MX8_restoreSnapshot (rmD 9) 0 [(0, rf G 41 0), (1, .int (iI a0))] [] (hp (sr m N)) 0 0 (.inl (some (.int (iI (0))))) (hp (sr (thr m 1) N))
  have n8 := hF.1
  have n16 := hF.2.1
  have nc8 := hF.2.2.1
  have nl16 := hF.2.2.2.1.1
  refine x_aload_n (pc := 0) dX8_restoreSnapshot_0 0 rfl ?_
  refine x_iload_n (pc := 1) dX8_restoreSnapshot_1 1 rfl ?_
  refine x_i2l (pc := 2) dX8_restoreSnapshot_2 ha0 ?_
  refine x_lconst (pc := 3) (z := 0) dX8_restoreSnapshot_3 (by decide) ?_
  refine x_lconst (pc := 4) (z := 1) dX8_restoreSnapshot_4 (by decide) ?_
  refine x_callS (pc := 5) _ dX8_restoreSnapshot_5 (mq_in a0 0 1 (by unfold inL; unfold inI at ha0; omega) (by unfold inL; omega) (by unfold inL; omega)) lkX8_44 rfl (by decide) (Nat.le_of_ble_eq_true rfl) rfl ?_
  refine x_iconst (pc := 8) dX8_restoreSnapshot_8 ?_
  refine x_callV (pc := 9) _ dX8_restoreSnapshot_9 (mq_isThrown (b := 0 ≤ a0 ∧ a0 ≤ 1) 1) lkX8_227 rfl rfl rfl rfl (mem_dom0 (by decide) (by decide)) (by decide) (Nat.le_of_ble_eq_true rfl) rfl ?_
  refine x_nil (m' := sr (thr m 1) N) (by rw [if_neg h0]) ?_
  refine x_ifb_eq (pc := 12) 17 dX8_restoreSnapshot_12 (by decide) (fun c_12 => absurd c_12 (fun z => z h0)) (fun c_12 => ?_)
  refine x_iconst (pc := 15) dX8_restoreSnapshot_15 ?_
  exact y_iret (pc := 16) dX8_restoreSnapshot_16 rfl rfl rfl

theorem Q_restoreSnapshot1 {G : GG} {m : Mem} {N : Int → Int} (hF : NF N) {a0 : Int} (ha0 : inI a0) (h0 : 0 ≤ a0 ∧ a0 ≤ 1) (hi : inI (m 47 0 a0)) (hz : m 47 0 a0 ≠ 0) : Ct G MX8_restoreSnapshot (rmD 9) [rf G 41 0, .int (iI a0)] (hp (sr m N)) (.inl (some (.int (iI ((cpX (sr (thr m 0) N) 46 42 a0 0 430) 42 0 2))))) (hp (sr (up3 (cpX (sr (thr m 0) N) 46 42 a0 0 430) 41 0 6 0) ((cpX (sr (thr m 0) N) 46 42 a0 0 430) 42 0))) := by
  refine x_entry (by decide +kernel) mwX8_restoreSnapshot rfl (Nat.le_of_ble_eq_true rfl) ?_
  show X G MX8_restoreSnapshot (rmD 9) 0 [(0, rf G 41 0), (1, .int (iI a0))] [] (hp (sr m N)) 0 0 (.inl (some (.int (iI ((cpX (sr (thr m 0) N) 46 42 a0 0 430) 42 0 2))))) (hp (sr (up3 (cpX (sr (thr m 0) N) 46 42 a0 0 430) 41 0 6 0) ((cpX (sr (thr m 0) N) 46 42 a0 0 430) 42 0)))
  have n8 := hF.1
  have n16 := hF.2.1
  have nc8 := hF.2.2.1
  have nl16 := hF.2.2.2.1.1
  refine x_aload_n (pc := 0) dX8_restoreSnapshot_0 0 rfl ?_
  refine x_iload_n (pc := 1) dX8_restoreSnapshot_1 1 rfl ?_
  refine x_i2l (pc := 2) dX8_restoreSnapshot_2 ha0 ?_
  refine x_lconst (pc := 3) (z := 0) dX8_restoreSnapshot_3 (by decide) ?_
  refine x_lconst (pc := 4) (z := 1) dX8_restoreSnapshot_4 (by decide) ?_
  refine x_callS (pc := 5) _ dX8_restoreSnapshot_5 (mq_in a0 0 1 (by unfold inL; unfold inI at ha0; omega) (by unfold inL; omega) (by unfold inL; omega)) lkX8_44 rfl (by decide) (Nat.le_of_ble_eq_true rfl) rfl ?_
  refine x_iconst (pc := 8) dX8_restoreSnapshot_8 ?_
  refine x_callV (pc := 9) _ dX8_restoreSnapshot_9 (mq_isThrown (b := 0 ≤ a0 ∧ a0 ≤ 1) 1) lkX8_227 rfl rfl rfl rfl (mem_dom0 (by decide) (by decide)) (by decide) (Nat.le_of_ble_eq_true rfl) rfl ?_
  refine x_nil (m' := sr (thr m 0) N) (by rw [if_pos h0]) ?_
  refine x_ifb_eq (pc := 12) 17 dX8_restoreSnapshot_12 (by decide) (fun c_12 => ?_) (fun c_12 => absurd c_12 (fun z => z h0))
  refine x_aload_n (pc := 17) dX8_restoreSnapshot_17 0 rfl ?_
  refine y_getR (pc := 18) dX8_restoreSnapshot_18 flX8_25 rfl rfl rfl (by decide) ?_
  refine x_iload_n (pc := 21) dX8_restoreSnapshot_21 1 rfl ?_
  refine y_zald (pc := 22) dX8_restoreSnapshot_22 rfl (by decide) (by omega) ?_
  refine x_top (v' := .int (iI (m 47 0 a0))) rfl ?_
  refine x_if_ne (pc := 23) 28 dX8_restoreSnapshot_23 (by decide) hi (fun c_23 => ?_) (fun c_23 => absurd c_23 hz)
  refine x_aload_n (pc := 28) dX8_restoreSnapshot_28 0 rfl ?_
  refine y_getR (pc := 29) dX8_restoreSnapshot_29 flX8_22 rfl rfl rfl (by decide) ?_
  refine x_iload_n (pc := 32) dX8_restoreSnapshot_32 1 rfl ?_
  refine x_aload_n (pc := 33) dX8_restoreSnapshot_33 0 rfl ?_
  refine y_getR (pc := 34) dX8_restoreSnapshot_34 flX8_9 rfl rfl rfl (by decide) ?_
  refine x_iconst (pc := 37) dX8_restoreSnapshot_37 ?_
  refine x_callS (pc := 38) _ dX8_restoreSnapshot_38 (mq_cp46_42 a0 0 (by omega) (by omega)) lkX8_183 rfl (by decide) (Nat.le_of_ble_eq_true rfl) rfl ?_
  refine x_nil (m' := sr (cpX (sr (thr m 0) N) 46 42 a0 0 430) ((cpX (sr (thr m 0) N) 46 42 a0 0 430) 42 0)) (sr_keep rfl) ?_
  refine x_aload_n (pc := 41) dX8_restoreSnapshot_41 0 rfl ?_
  refine x_iconst (pc := 42) dX8_restoreSnapshot_42 ?_
  refine y_putM (pc := 43) 6 dX8_restoreSnapshot_43 fwX8_186 rfl rfl rfl ?_
  refine x_aload_n (pc := 46) dX8_restoreSnapshot_46 0 rfl ?_
  refine y_getR (pc := 47) dX8_restoreSnapshot_47 flX8_9 rfl rfl rfl (by decide) ?_
  refine x_iconst (pc := 50) dX8_restoreSnapshot_50 ?_
  refine y_nald (pc := 51) dX8_restoreSnapshot_51 (by omega) ?_
  exact y_iret (pc := 52) dX8_restoreSnapshot_52 rfl rfl rfl
