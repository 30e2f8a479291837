theorem Q_recall0 {G : GG} {m : Mem} {N : Int → Int} (hF : NF N) {a0 : Int} (ha0 : inI a0) (h0 : 0 ≤ a0 ∧ a0 < N 9) (hz : ¬ N (318 + 7 * a0 + 5) ≤ 2) : Ct G MX8_recall (rmD 9) [rf G 41 0, .int (iI a0)] (hp (sr m N)) (.inl (some (.int (iI (-3))))) (hp (sr (thr m 0) N)) := by
  refine x_entry (by decide +kernel) mwX8_recall rfl (Nat.le_of_ble_eq_true rfl) ?_
  show X G MX8_recall (rmD 9) 0 [(0, rf G 41 0), (1, .int (iI a0))] [] (hp (sr m N)) 0 0 (.inl (some (.int (iI (-3))))) (hp (sr (thr m 0) N))
  have n8 := hF.1
  have n16 := hF.2.1
  have nc8 := hF.2.2.1
  have nl16 := hF.2.2.2.1.1
  have lf := hF.2.2.2.1.2 a0 h0.1 h0.2
  have l0 := lf.1
  have l5 := lf.2.2.2.2.2.1
  refine x_aload_n (pc := 0) dX8_recall_0 0 rfl ?_
  refine x_aload_n (pc := 1) dX8_recall_1 0 rfl ?_
  refine x_iload_n (pc := 2) dX8_recall_2 1 rfl ?_
  refine x_callV (pc := 3) _ dX8_recall_3 (mq_isLoan a0 ha0 (by omega)) lkX8_269 rfl rfl rfl rfl (mem_dom0 (by decide) (by decide)) (by decide) (Nat.le_of_ble_eq_true rfl) rfl ?_
  refine x_iconst (pc := 6) dX8_recall_6 ?_
  refine x_callV (pc := 7) _ dX8_recall_7 (mq_isThrown (b := 0 ≤ a0 ∧ a0 < N 9) 1) lkX8_227 rfl rfl rfl rfl (mem_dom0 (by decide) (by decide)) (by decide) (Nat.le_of_ble_eq_true rfl) rfl ?_
  refine x_nil (m' := sr (thr m 0) N) (by rw [if_pos h0]) ?_
  refine x_ifb_eq (pc := 10) 15 dX8_recall_10 (by decide) (fun c_10 => ?_) (fun c_10 => absurd c_10 (fun z => z h0))
  refine x_aload_n (pc := 15) dX8_recall_15 0 rfl ?_
  refine x_iload_n (pc := 16) dX8_recall_16 1 rfl ?_
  refine x_callV (pc := 17) _ dX8_recall_17 (mq_isOpen a0 (by omega) (by unfold inI; omega)) lkX8_221 rfl rfl rfl rfl (mem_dom0 (by decide) (by decide)) (by decide) (Nat.le_of_ble_eq_true rfl) rfl ?_
  refine x_ifb_ne (pc := 20) 26 dX8_recall_20 (by decide) (fun c_20 => absurd c_20 hz) (fun c_20 => ?_)
  refine x_bipush (pc := 23) (z := (-3)) dX8_recall_23 (by decide) ?_
  exact y_iret (pc := 25) dX8_recall_25 rfl rfl rfl

theorem Qx_recall_0 {G : GG} {m : Mem} {N : Int → Int} (hF : NF N) {a0 : Int} (ha0 : inI a0)  (h0 : ¬ (0 ≤ a0 ∧ a0 < N 9)) : Ct G MX8_recall (rmD 9) [rf G 41 0, .int (iI a0)] (hp (sr m N)) (.inl (some (.int (iI (0))))) (hp (sr (thr m 1) N)) := by
  refine x_entry (by decide +kernel) mwX8_recall rfl (Nat.le_of_ble_eq_true rfl) ?_
  show X G MX8_recall (rmD 9) 0 [(0, rf G 41 0), (1, .int (iI a0))] [] (hp (sr m N)) 0 0 (.inl (some (.int (iI (0))))) (hp (sr (thr m 1) N))
  have n8 := hF.1
  have n16 := hF.2.1
  have nc8 := hF.2.2.1
  have nl16 := hF.2.2.2.1.1
  refine x_aload_n (pc := 0) dX8_recall_0 0 rfl ?_
  refine x_aload_n (pc := 1) dX8_recall_1 0 rfl ?_
  refine x_iload_n (pc := 2) dX8_recall_2 1 rfl ?_
  refine x_callV (pc := 3) _ dX8_recall_3 (mq_isLoan a0 ha0 (by omega)) lkX8_269 rfl rfl rfl rfl (mem_dom0 (by decide) (by decide)) (by decide) (Nat.le_of_ble_eq_true rfl) rfl ?_
  refine x_iconst (pc := 6) dX8_recall_6 ?_
  refine x_callV (pc := 7) _ dX8_recall_7 (mq_isThrown (b := 0 ≤ a0 ∧ a0 < N 9) 1) lkX8_227 rfl rfl rfl rfl (mem_dom0 (by decide) (by decide)) (by decide) (Nat.le_of_ble_eq_true rfl) rfl ?_
  refine x_nil (m' := sr (thr m 1) N) (by rw [if_neg h0]) ?_
  refine x_ifb_eq (pc := 10) 15 dX8_recall_10 (by decide) (fun c_10 => absurd c_10 (fun z => z h0)) (fun c_10 => ?_)
  refine x_iconst (pc := 13) dX8_recall_13 ?_
  exact y_iret (pc := 14) dX8_recall_14 rfl rfl rfl

theorem Q_giveBack0 {G : GG} {m : Mem} {N : Int → Int} (hF : NF N) {a0 : Int} (ha0 : inI a0) (h0 : 0 ≤ a0 ∧ a0 < N 9) (hz : ¬ N (318 + 7 * a0 + 5) ≤ 2) : Ct G MX8_giveBack (rmD 9) [rf G 41 0, .int (iI a0)] (hp (sr m N)) (.inl (some (.int (iI (-3))))) (hp (sr (thr m 0) N)) := by
  refine x_entry (by decide +kernel) mwX8_giveBack rfl (Nat.le_of_ble_eq_true rfl) ?_
  show X G MX8_giveBack (rmD 9) 0 [(0, rf G 41 0), (1, .int (iI a0))] [] (hp (sr m N)) 0 0 (.inl (some (.int (iI (-3))))) (hp (sr (thr m 0) N))
  have n8 := hF.1
  have n16 := hF.2.1
  have nc8 := hF.2.2.1
  have nl16 := hF.2.2.2.1.1
  have lf := hF.2.2.2.1.2 a0 h0.1 h0.2
  have l0 := lf.1
  have l5 := lf.2.2.2.2.2.1
  refine x_aload_n (pc := 0) dX8_giveBack_0 0 rfl ?_
  refine x_aload_n (pc := 1) dX8_giveBack_1 0 rfl ?_
  refine x_iload_n (pc := 2) dX8_giveBack_2 1 rfl ?_
  refine x_callV (pc := 3) _ dX8_giveBack_3 (mq_isLoan a0 ha0 (by omega)) lkX8_269 rfl rfl rfl rfl (mem_dom0 (by decide) (by decide)) (by decide) (Nat.le_of_ble_eq_true rfl) rfl ?_
  refine x_iconst (pc := 6) dX8_giveBack_6 ?_
  refine x_callV (pc := 7) _ dX8_giveBack_7 (mq_isThrown (b := 0 ≤ a0 ∧ a0 < N 9) 1) lkX8_227 rfl rfl rfl rfl (mem_dom0 (by decide) (by decide)) (by decide) (Nat.le_of_ble_eq_true rfl) rfl ?_
  refine x_nil (m' := sr (thr m 0) N) (by rw [if_pos h0]) ?_
  refine x_ifb_eq (pc := 10) 15 dX8_giveBack_10 (by decide) (fun c_10 => ?_) (fun c_10 => absurd c_10 (fun z => z h0))
  refine x_aload_n (pc := 15) dX8_giveBack_15 0 rfl ?_
  refine x_iload_n (pc := 16) dX8_giveBack_16 1 rfl ?_
  refine x_callV (pc := 17) _ dX8_giveBack_17 (mq_isOpen a0 (by omega) (by unfold inI; omega)) lkX8_221 rfl rfl rfl rfl (mem_dom0 (by decide) (by decide)) (by decide) (Nat.le_of_ble_eq_true rfl) rfl ?_
  refine x_ifb_ne (pc := 20) 26 dX8_giveBack_20 (by decide) (fun c_20 => absurd c_20 hz) (fun c_20 => ?_)
  refine x_bipush (pc := 23) (z := (-3)) dX8_giveBack_23 (by decide) ?_
  exact y_iret (pc := 25) dX8_giveBack_25 rfl rfl rfl

theorem Qx_giveBack_0 {G : GG} {m : Mem} {N : Int → Int} (hF : NF N) {a0 : Int} (ha0 : inI a0)  (h0 : ¬ (0 ≤ a0 ∧ a0 < N 9)) : Ct G MX8_giveBack (rmD 9) [rf G 41 0, .int (iI a0)] (hp (sr m N)) (.inl (some (.int (iI (0))))) (hp (sr (thr m 1) N)) := by
  refine x_entry (by decide +kernel) mwX8_giveBack rfl (Nat.le_of_ble_eq_true rfl) ?_
  show X G MX8_giveBack (rmD 9) 0 [(0, rf G 41 0), (1, .int (iI a0))] [] (hp (sr m N)) 0 0 (.inl (some (.int (iI (0))))) (hp (sr (thr m 1) N))
  have n8 := hF.1
  have n16 := hF.2.1
  have nc8 := hF.2.2.1
  have nl16 := hF.2.2.2.1.1
  refine x_aload_n (pc := 0) dX8_giveBack_0 0 rfl ?_
  refine x_aload_n (pc := 1) dX8_giveBack_1 0 rfl ?_
  refine x_iload_n (pc := 2) dX8_giveBack_2 1 rfl ?_
  refine x_callV (pc := 3) _ dX8_giveBack_3 (mq_isLoan a0 ha0 (by omega)) lkX8_269 rfl rfl rfl rfl (mem_dom0 (by decide) (by decide)) (by decide) (Nat.le_of_ble_eq_true rfl) rfl ?_
  refine x_iconst (pc := 6) dX8_giveBack_6 ?_
  refine x_callV (pc := 7) _ dX8_giveBack_7 (mq_isThrown (b := 0 ≤ a0 ∧ a0 < N 9) 1) lkX8_227 rfl rfl rfl rfl (mem_dom0 (by decide) (by decide)) (by decide) (Nat.le_of_ble_eq_true rfl) rfl ?_
  refine x_nil (m' := sr (thr m 1) N) (by rw [if_neg h0]) ?_
  refine x_ifb_eq (pc := 10) 15 dX8_giveBack_10 (by decide) (fun c_10 => absurd c_10 (fun z => z h0)) (fun c_10 => ?_)
  refine x_iconst (pc := 13) dX8_giveBack_13 ?_
  exact y_iret (pc := 14) dX8_giveBack_14 rfl rfl rfl

theorem Q_forgive0 {G : GG} {m : Mem} {N : Int → Int} (hF : NF N) {a0 : Int} (ha0 : inI a0) (h0 : 0 ≤ a0 ∧ a0 < N 9) (hz : ¬ N (318 + 7 * a0 + 5) ≤ 2) : Ct G MX8_forgive (rmD 9) [rf G 41 0, .int (iI a0)] (hp (sr m N)) (.inl (some (.int (iI (-3))))) (hp (sr (thr m 0) N)) := by
  refine x_entry (by decide +kernel) mwX8_forgive rfl (Nat.le_of_ble_eq_true rfl) ?_
  show X G MX8_forgive (rmD 9) 0 [(0, rf G 41 0), (1, .int (iI a0))] [] (hp (sr m N)) 0 0 (.inl (some (.int (iI (-3))))) (hp (sr (thr m 0) N))
  have n8 := hF.1
  have n16 := hF.2.1
  have nc8 := hF.2.2.1
  have nl16 := hF.2.2.2.1.1
  have lf := hF.2.2.2.1.2 a0 h0.1 h0.2
  have l0 := lf.1
  have l5 := lf.2.2.2.2.2.1
  refine x_aload_n (pc := 0) dX8_forgive_0 0 rfl ?_
  refine x_aload_n (pc := 1) dX8_forgive_1 0 rfl ?_
  refine x_iload_n (pc := 2) dX8_forgive_2 1 rfl ?_
  refine x_callV (pc := 3) _ dX8_forgive_3 (mq_isLoan a0 ha0 (by omega)) lkX8_269 rfl rfl rfl rfl (mem_dom0 (by decide) (by decide)) (by decide) (Nat.le_of_ble_eq_true rfl) rfl ?_
  refine x_iconst (pc := 6) dX8_forgive_6 ?_
  refine x_callV (pc := 7) _ dX8_forgive_7 (mq_isThrown (b := 0 ≤ a0 ∧ a0 < N 9) 1) lkX8_227 rfl rfl rfl rfl (mem_dom0 (by decide) (by decide)) (by decide) (Nat.le_of_ble_eq_true rfl) rfl ?_
  refine x_nil (m' := sr (thr m 0) N) (by rw [if_pos h0]) ?_
  refine x_ifb_eq (pc := 10) 15 dX8_forgive_10 (by decide) (fun c_10 => ?_) (fun c_10 => absurd c_10 (fun z => z h0))
  refine x_aload_n (pc := 15) dX8_forgive_15 0 rfl ?_
  refine x_iload_n (pc := 16) dX8_forgive_16 1 rfl ?_
  refine x_callV (pc := 17) _ dX8_forgive_17 (mq_isOpen a0 (by omega) (by unfold inI; omega)) lkX8_221 rfl rfl rfl rfl (mem_dom0 (by decide) (by decide)) (by decide) (Nat.le_of_ble_eq_true rfl) rfl ?_
  refine x_ifb_ne (pc := 20) 26 dX8_forgive_20 (by decide) (fun c_20 => absurd c_20 hz) (fun c_20 => ?_)
  refine x_bipush (pc := 23) (z := (-3)) dX8_forgive_23 (by decide) ?_
  exact y_iret (pc := 25) dX8_forgive_25 rfl rfl rfl

theorem Qx_forgive_0 {G : GG} {m : Mem} {N : Int → Int} (hF : NF N) {a0 : Int} (ha0 : inI a0)  (h0 : ¬ (0 ≤ a0 ∧ a0 < N 9)) : Ct G MX8_forgive (rmD 9) [rf G 41 0, .int (iI a0)] (hp (sr m N)) (.inl (some (.int (iI (0))))) (hp (sr (thr m 1) N)) := by
  refine x_entry (by decide +kernel) mwX8_forgive rfl (Nat.le_of_ble_eq_true rfl) ?_
  show X G MX8_forgive (rmD 9) 0 [(0, rf G 41 0), (1, .int (iI a0))] [] (hp (sr m N)) 0 0 (.inl (some (.int (iI (0))))) (hp (sr (thr m 1) N))
  have n8 := hF.1
  have n16 := hF.2.1
  have nc8 := hF.2.2.1
  have nl16 := hF.2.2.2.1.1
  refine x_aload_n (pc := 0) dX8_forgive_0 0 rfl ?_
  refine x_aload_n (pc := 1) dX8_forgive_1 0 rfl ?_
  refine x_iload_n (pc := 2) dX8_forgive_2 1 rfl ?_
  refine x_callV (pc := 3) _ dX8_forgive_3 (mq_isLoan a0 ha0 (by omega)) lkX8_269 rfl rfl rfl rfl (mem_dom0 (by decide) (by decide)) (by decide) (Nat.le_of_ble_eq_true rfl) rfl ?_
  refine x_iconst (pc := 6) dX8_forgive_6 ?_
  refine x_callV (pc := 7) _ dX8_forgive_7 (mq_isThrown (b := 0 ≤ a0 ∧ a0 < N 9) 1) lkX8_227 rfl rfl rfl rfl (mem_dom0 (by decide) (by decide)) (by decide) (Nat.le_of_ble_eq_true rfl) rfl ?_
  refine x_nil (m' := sr (thr m 1) N) (by rw [if_neg h0]) ?_
  refine x_ifb_eq (pc := 10) 15 dX8_forgive_10 (by decide) (fun c_10 => absurd c_10 (fun z => z h0)) (fun c_10 => ?_)
  refine x_iconst (pc := 13) dX8_forgive_13 ?_
  exact y_iret (pc := 14) dX8_forgive_14 rfl rfl rfl

theorem Q_recall1 {G : GG} {m : Mem} {N : Int → Int} (hF : NF N) {a0 : Int} (ha0 : inI a0) (h0 : 0 ≤ a0 ∧ a0 < N 9) (hm : 0 ≤ m 41 0 6 ∧ m 41 0 6 ≤ 8) (hz : N (318 + 7 * a0 + 5) ≤ 2) (hd : inI (N (318 + 7 * a0 + 6))) (hr : inI (N 2 + N (270 + 6 * N (318 + 7 * a0 + 0) + 3))) : Ct G MX8_recall (rmD 9) [rf G 41 0, .int (iI a0)] (hp (sr m N)) (.inl (some (.int (iI ((upN N (318 + 7 * a0 + 6) (min (N (318 + 7 * a0 + 6)) (N 2 + N (270 + 6 * N (318 + 7 * a0 + 0) + 3)))) (318 + 7 * a0 + 6)))))) (hp (sr (KM (thr m 0) N) (upN N (318 + 7 * a0 + 6) (min (N (318 + 7 * a0 + 6)) (N 2 + N (270 + 6 * N (318 + 7 * a0 + 0) + 3)))))) := by
  refine x_entry (by decide +kernel) mwX8_recall rfl (Nat.le_of_ble_eq_true rfl) ?_
  show X G MX8_recall (rmD 9) 0 [(0, rf G 41 0), (1, .int (iI a0))] [] (hp (sr m N)) 0 0 (.inl (some (.int (iI ((upN N (318 + 7 * a0 + 6) (min (N (318 + 7 * a0 + 6)) (N 2 + N (270 + 6 * N (318 + 7 * a0 + 0) + 3)))) (318 + 7 * a0 + 6)))))) (hp (sr (KM (thr m 0) N) (upN N (318 + 7 * a0 + 6) (min (N (318 + 7 * a0 + 6)) (N 2 + N (270 + 6 * N (318 + 7 * a0 + 0) + 3))))))
  have n8 := hF.1
  have n16 := hF.2.1
  have nc8 := hF.2.2.1
  have nl16 := hF.2.2.2.1.1
  have lf := hF.2.2.2.1.2 a0 h0.1 h0.2
  have l0 := lf.1
  have l5 := lf.2.2.2.2.2.1
  refine x_aload_n (pc := 0) dX8_recall_0 0 rfl ?_
  refine x_aload_n (pc := 1) dX8_recall_1 0 rfl ?_
  refine x_iload_n (pc := 2) dX8_recall_2 1 rfl ?_
  refine x_callV (pc := 3) _ dX8_recall_3 (mq_isLoan a0 ha0 (by omega)) lkX8_269 rfl rfl rfl rfl (mem_dom0 (by decide) (by decide)) (by decide) (Nat.le_of_ble_eq_true rfl) rfl ?_
  refine x_iconst (pc := 6) dX8_recall_6 ?_
  refine x_callV (pc := 7) _ dX8_recall_7 (mq_isThrown (b := 0 ≤ a0 ∧ a0 < N 9) 1) lkX8_227 rfl rfl rfl rfl (mem_dom0 (by decide) (by decide)) (by decide) (Nat.le_of_ble_eq_true rfl) rfl ?_
  refine x_nil (m' := sr (thr m 0) N) (by rw [if_pos h0]) ?_
  refine x_ifb_eq (pc := 10) 15 dX8_recall_10 (by decide) (fun c_10 => ?_) (fun c_10 => absurd c_10 (fun z => z h0))
  refine x_aload_n (pc := 15) dX8_recall_15 0 rfl ?_
  refine x_iload_n (pc := 16) dX8_recall_16 1 rfl ?_
  refine x_callV (pc := 17) _ dX8_recall_17 (mq_isOpen a0 (by omega) (by unfold inI; omega)) lkX8_221 rfl rfl rfl rfl (mem_dom0 (by decide) (by decide)) (by decide) (Nat.le_of_ble_eq_true rfl) rfl ?_
  refine x_ifb_ne (pc := 20) 26 dX8_recall_20 (by decide) (fun c_20 => ?_) (fun c_20 => absurd c_20 (fun z => z hz))
  refine x_aload_n (pc := 26) dX8_recall_26 0 rfl ?_
  refine x_callV (pc := 27) _ dX8_recall_27 (mq_keepsN (m := thr m 0) (by rw [thr_6]; exact hm)) lkX8_341 rfl rfl rfl rfl (mem_dom0 (by decide) (by decide)) (by decide) (Nat.le_of_ble_eq_true rfl) rfl ?_
  refine x_nil (m' := sr (KM (thr m 0) N) N) rfl ?_
  refine x_aload_n (pc := 30) dX8_recall_30 0 rfl ?_
  refine x_iload_n (pc := 31) dX8_recall_31 1 rfl ?_
  refine x_aload_n (pc := 32) dX8_recall_32 0 rfl ?_
  refine y_getR (pc := 33) dX8_recall_33 flX8_9 rfl rfl rfl (by decide) ?_
  refine x_iconst (pc := 36) dX8_recall_36 ?_
  refine y_nald (pc := 37) dX8_recall_37 (by omega) ?_
  refine x_aload_n (pc := 38) dX8_recall_38 0 rfl ?_
  refine x_iload_n (pc := 39) dX8_recall_39 1 rfl ?_
  refine x_iconst (pc := 40) dX8_recall_40 ?_
  refine x_callV (pc := 41) _ dX8_recall_41 (mq_ofLoans a0 3 (by omega) (by omega)) lkX8_308 rfl rfl rfl rfl (mem_dom0 (by decide) (by decide)) (by decide) (Nat.le_of_ble_eq_true rfl) rfl ?_
  refine x_iadd (pc := 44) dX8_recall_44 ?_
  refine x_callV (pc := 45) _ dX8_recall_45 (mq_comesDue a0 (N 2 + N (270 + 6 * N (318 + 7 * a0 + 0) + 3)) (by omega) hd hr) lkX8_348 rfl rfl rfl rfl (mem_dom0 (by decide) (by decide)) (by decide) (Nat.le_of_ble_eq_true rfl) rfl ?_
  refine x_aload_n (pc := 48) dX8_recall_48 0 rfl ?_
  refine x_iload_n (pc := 49) dX8_recall_49 1 rfl ?_
  refine x_bipush (pc := 50) (z := 6) dX8_recall_50 (by decide) ?_
  refine x_callV (pc := 52) _ dX8_recall_52 (mq_ofLoan a0 6 (by omega)) lkX8_50 rfl rfl rfl rfl (mem_dom0 (by decide) (by decide)) (by decide) (Nat.le_of_ble_eq_true rfl) rfl ?_
  exact y_iret (pc := 55) dX8_recall_55 rfl rfl rfl

theorem Q_giveBack1 {G : GG} {m : Mem} {N : Int → Int} (hF : NF N) {a0 : Int} (ha0 : inI a0) (h0 : 0 ≤ a0 ∧ a0 < N 9) (hm : 0 ≤ m 41 0 6 ∧ m 41 0 6 ≤ 8) (hz : N (318 + 7 * a0 + 5) ≤ 2) (hd : inI (N (318 + 7 * a0 + 6))) (hr : inI (N 2)) (hL : LN (upN N (318 + 7 * a0 + 6) (min (N (318 + 7 * a0 + 6)) (N 2))) a0) : Ct G MX8_giveBack (rmD 9) [rf G 41 0, .int (iI a0)] (hp (sr m N)) (.inl (some (.int (iI (owedN (upN N (318 + 7 * a0 + 6) (min (N (318 + 7 * a0 + 6)) (N 2))) a0))))) (hp (sr (KM (thr m 0) N) (upN N (318 + 7 * a0 + 6) (min (N (318 + 7 * a0 + 6)) (N 2))))) := by
  refine x_entry (by decide +kernel) mwX8_giveBack rfl (Nat.le_of_ble_eq_true rfl) ?_
  show X G MX8_giveBack (rmD 9) 0 [(0, rf G 41 0), (1, .int (iI a0))] [] (hp (sr m N)) 0 0 (.inl (some (.int (iI (owedN (upN N (318 + 7 * a0 + 6) (min (N (318 + 7 * a0 + 6)) (N 2))) a0))))) (hp (sr (KM (thr m 0) N) (upN N (318 + 7 * a0 + 6) (min (N (318 + 7 * a0 + 6)) (N 2)))))
  have n8 := hF.1
  have n16 := hF.2.1
  have nc8 := hF.2.2.1
  have nl16 := hF.2.2.2.1.1
  have lf := hF.2.2.2.1.2 a0 h0.1 h0.2
  have l0 := lf.1
  have l5 := lf.2.2.2.2.2.1
  refine x_aload_n (pc := 0) dX8_giveBack_0 0 rfl ?_
  refine x_aload_n (pc := 1) dX8_giveBack_1 0 rfl ?_
  refine x_iload_n (pc := 2) dX8_giveBack_2 1 rfl ?_
  refine x_callV (pc := 3) _ dX8_giveBack_3 (mq_isLoan a0 ha0 (by omega)) lkX8_269 rfl rfl rfl rfl (mem_dom0 (by decide) (by decide)) (by decide) (Nat.le_of_ble_eq_true rfl) rfl ?_
  refine x_iconst (pc := 6) dX8_giveBack_6 ?_
  refine x_callV (pc := 7) _ dX8_giveBack_7 (mq_isThrown (b := 0 ≤ a0 ∧ a0 < N 9) 1) lkX8_227 rfl rfl rfl rfl (mem_dom0 (by decide) (by decide)) (by decide) (Nat.le_of_ble_eq_true rfl) rfl ?_
  refine x_nil (m' := sr (thr m 0) N) (by rw [if_pos h0]) ?_
  refine x_ifb_eq (pc := 10) 15 dX8_giveBack_10 (by decide) (fun c_10 => ?_) (fun c_10 => absurd c_10 (fun z => z h0))
  refine x_aload_n (pc := 15) dX8_giveBack_15 0 rfl ?_
  refine x_iload_n (pc := 16) dX8_giveBack_16 1 rfl ?_
  refine x_callV (pc := 17) _ dX8_giveBack_17 (mq_isOpen a0 (by omega) (by unfold inI; omega)) lkX8_221 rfl rfl rfl rfl (mem_dom0 (by decide) (by decide)) (by decide) (Nat.le_of_ble_eq_true rfl) rfl ?_
  refine x_ifb_ne (pc := 20) 26 dX8_giveBack_20 (by decide) (fun c_20 => ?_) (fun c_20 => absurd c_20 (fun z => z hz))
  refine x_aload_n (pc := 26) dX8_giveBack_26 0 rfl ?_
  refine x_callV (pc := 27) _ dX8_giveBack_27 (mq_keepsN (m := thr m 0) (by rw [thr_6]; exact hm)) lkX8_341 rfl rfl rfl rfl (mem_dom0 (by decide) (by decide)) (by decide) (Nat.le_of_ble_eq_true rfl) rfl ?_
  refine x_nil (m' := sr (KM (thr m 0) N) N) rfl ?_
  refine x_aload_n (pc := 30) dX8_giveBack_30 0 rfl ?_
  refine x_iload_n (pc := 31) dX8_giveBack_31 1 rfl ?_
  refine x_aload_n (pc := 32) dX8_giveBack_32 0 rfl ?_
  refine y_getR (pc := 33) dX8_giveBack_33 flX8_9 rfl rfl rfl (by decide) ?_
  refine x_iconst (pc := 36) dX8_giveBack_36 ?_
  refine y_nald (pc := 37) dX8_giveBack_37 (by omega) ?_
  refine x_callV (pc := 38) _ dX8_giveBack_38 (mq_comesDue a0 (N 2) (by omega) hd hr) lkX8_348 rfl rfl rfl rfl (mem_dom0 (by decide) (by decide)) (by decide) (Nat.le_of_ble_eq_true rfl) rfl ?_
  refine x_aload_n (pc := 41) dX8_giveBack_41 0 rfl ?_
  refine x_iload_n (pc := 42) dX8_giveBack_42 1 rfl ?_
  refine x_callV (pc := 43) _ dX8_giveBack_43 (mq_owed a0 (by omega) hL) lkX8_254 rfl rfl rfl rfl (mem_dom0 (by decide) (by decide)) (by decide) (Nat.le_of_ble_eq_true rfl) rfl ?_
  exact y_iret (pc := 46) dX8_giveBack_46 rfl rfl rfl

theorem Q_forgive1 {G : GG} {m : Mem} {N : Int → Int} (hF : NF N) {a0 : Int} (ha0 : inI a0) (h0 : 0 ≤ a0 ∧ a0 < N 9) (hm : 0 ≤ m 41 0 6 ∧ m 41 0 6 ≤ 8) (hz : N (318 + 7 * a0 + 5) ≤ 2) (hd : inI (N (318 + 7 * a0 + 6)))  : Ct G MX8_forgive (rmD 9) [rf G 41 0, .int (iI a0)] (hp (sr m N)) (.inl (some (.int (iI (owedN N a0))))) (hp (sr (KM (thr m 0) N) (upN N (318 + 7 * a0 + 5) 5))) := by
  refine x_entry (by decide +kernel) mwX8_forgive rfl (Nat.le_of_ble_eq_true rfl) ?_
  show X G MX8_forgive (rmD 9) 0 [(0, rf G 41 0), (1, .int (iI a0))] [] (hp (sr m N)) 0 0 (.inl (some (.int (iI (owedN N a0))))) (hp (sr (KM (thr m 0) N) (upN N (318 + 7 * a0 + 5) 5)))
  have n8 := hF.1
  have n16 := hF.2.1
  have nc8 := hF.2.2.1
  have nl16 := hF.2.2.2.1.1
  have lf := hF.2.2.2.1.2 a0 h0.1 h0.2
  have l0 := lf.1
  have l5 := lf.2.2.2.2.2.1
  refine x_aload_n (pc := 0) dX8_forgive_0 0 rfl ?_
  refine x_aload_n (pc := 1) dX8_forgive_1 0 rfl ?_
  refine x_iload_n (pc := 2) dX8_forgive_2 1 rfl ?_
  refine x_callV (pc := 3) _ dX8_forgive_3 (mq_isLoan a0 ha0 (by omega)) lkX8_269 rfl rfl rfl rfl (mem_dom0 (by decide) (by decide)) (by decide) (Nat.le_of_ble_eq_true rfl) rfl ?_
  refine x_iconst (pc := 6) dX8_forgive_6 ?_
  refine x_callV (pc := 7) _ dX8_forgive_7 (mq_isThrown (b := 0 ≤ a0 ∧ a0 < N 9) 1) lkX8_227 rfl rfl rfl rfl (mem_dom0 (by decide) (by decide)) (by decide) (Nat.le_of_ble_eq_true rfl) rfl ?_
  refine x_nil (m' := sr (thr m 0) N) (by rw [if_pos h0]) ?_
  refine x_ifb_eq (pc := 10) 15 dX8_forgive_10 (by decide) (fun c_10 => ?_) (fun c_10 => absurd c_10 (fun z => z h0))
  refine x_aload_n (pc := 15) dX8_forgive_15 0 rfl ?_
  refine x_iload_n (pc := 16) dX8_forgive_16 1 rfl ?_
  refine x_callV (pc := 17) _ dX8_forgive_17 (mq_isOpen a0 (by omega) (by unfold inI; omega)) lkX8_221 rfl rfl rfl rfl (mem_dom0 (by decide) (by decide)) (by decide) (Nat.le_of_ble_eq_true rfl) rfl ?_
  refine x_ifb_ne (pc := 20) 26 dX8_forgive_20 (by decide) (fun c_20 => ?_) (fun c_20 => absurd c_20 (fun z => z hz))
  refine x_aload_n (pc := 26) dX8_forgive_26 0 rfl ?_
  refine x_callV (pc := 27) _ dX8_forgive_27 (mq_keepsN (m := thr m 0) (by rw [thr_6]; exact hm)) lkX8_341 rfl rfl rfl rfl (mem_dom0 (by decide) (by decide)) (by decide) (Nat.le_of_ble_eq_true rfl) rfl ?_
  refine x_nil (m' := sr (KM (thr m 0) N) N) rfl ?_
  refine x_aload_n (pc := 30) dX8_forgive_30 0 rfl ?_
  refine x_iload_n (pc := 31) dX8_forgive_31 1 rfl ?_
  refine x_callV (pc := 32) _ dX8_forgive_32 (mq_owed a0 (by omega) lf) lkX8_254 rfl rfl rfl rfl (mem_dom0 (by decide) (by decide)) (by decide) (Nat.le_of_ble_eq_true rfl) rfl ?_
  refine x_istore_n (pc := 35) (lv' := [(2, _), (0, _), (1, _)]) dX8_forgive_35 rfl (by decide) rfl ?_
  refine x_aload_n (pc := 36) dX8_forgive_36 1 rfl ?_
  refine x_iload_n (pc := 37) dX8_forgive_37 2 rfl ?_
  refine x_iconst (pc := 38) dX8_forgive_38 ?_
  refine x_iconst (pc := 39) dX8_forgive_39 ?_
  refine x_callV (pc := 40) _ dX8_forgive_40 (mq_setsLoan a0 5 5 (by omega)) lkX8_318 rfl rfl rfl rfl (mem_dom0 (by decide) (by decide)) (by decide) (Nat.le_of_ble_eq_true rfl) rfl ?_
  refine x_iload_n (pc := 43) dX8_forgive_43 0 rfl ?_
  exact y_iret (pc := 44) dX8_forgive_44 rfl rfl rfl

theorem Q_charge {G : GG} {m : Mem} {N : Int → Int} (hF : NF N) {a0 a1 : Int} (ha0 : inI a0) (ha1 : inI a1) (h0 : 0 ≤ a0 ∧ a0 < N 3) (h1 : 1 ≤ a1 ∧ a1 ≤ 100000) (hm : 0 ≤ m 41 0 6 ∧ m 41 0 6 ≤ 8) (hpn : PN (upN N 10 (N 10 + a1)) a0) (hx : 0 ≤ (upN N 10 (N 10 + a1)) (30 + 7 * a0 + 1) + a1 ∧ (upN N 10 (N 10 + a1)) (30 + 7 * a0 + 1) + a1 ≤ 1000000) : Ct G MX8_charge (rmD 9) [rf G 41 0, .int (iI a0), .int (iI a1)] (hp (sr m N)) (.inl (some (.int (iI (getN (upN N 10 (N 10 + a1)) a0 a1 (30 + 7 * a0 + 1)))))) (hp (sr (KM (thr m 0) N) (getN (upN N 10 (N 10 + a1)) a0 a1))) := by
  refine x_entry (by decide +kernel) mwX8_charge rfl (Nat.le_of_ble_eq_true rfl) ?_
  show X G MX8_charge (rmD 9) 0 [(0, rf G 41 0), (1, .int (iI a0)), (2, .int (iI a1))] [] (hp (sr m N)) 0 0 (.inl (some (.int (iI (getN (upN N 10 (N 10 + a1)) a0 a1 (30 + 7 * a0 + 1)))))) (hp (sr (KM (thr m 0) N) (getN (upN N 10 (N 10 + a1)) a0 a1)))
  have n8 := hF.1
  have n16 := hF.2.1
  have nc8 := hF.2.2.1
  have nl16 := hF.2.2.2.1.1
  refine x_aload_n (pc := 0) dX8_charge_0 0 rfl ?_
  refine x_aload_n (pc := 1) dX8_charge_1 0 rfl ?_
  refine x_iload_n (pc := 2) dX8_charge_2 1 rfl ?_
  refine x_callV (pc := 3) _ dX8_charge_3 (mq_isPack a0 ha0 (by omega)) lkX8_234 rfl rfl rfl rfl (mem_dom0 (by decide) (by decide)) (by decide) (Nat.le_of_ble_eq_true rfl) rfl ?_
  refine x_iconst (pc := 6) dX8_charge_6 ?_
  refine x_callV (pc := 7) _ dX8_charge_7 (mq_isThrown (b := 0 ≤ a0 ∧ a0 < N 3) 1) lkX8_227 rfl rfl rfl rfl (mem_dom0 (by decide) (by decide)) (by decide) (Nat.le_of_ble_eq_true rfl) rfl ?_
  refine x_nil (m' := sr (thr m 0) N) (by rw [if_pos h0]) ?_
  refine x_ifb_ne (pc := 10) 25 dX8_charge_10 (by decide) (fun c_10 => absurd c_10 (fun z => z h0)) (fun c_10 => ?_)
  refine x_aload_n (pc := 13) dX8_charge_13 0 rfl ?_
  refine x_iload_n (pc := 14) dX8_charge_14 2 rfl ?_
  refine x_callS (pc := 15) _ dX8_charge_15 (mq_isAmount a1 ha1) lkX8_281 rfl (by decide) (Nat.le_of_ble_eq_true rfl) rfl ?_
  refine x_iconst (pc := 18) dX8_charge_18 ?_
  refine x_callV (pc := 19) _ dX8_charge_19 (mq_isThrown (b := 1 ≤ a1 ∧ a1 ≤ 100000) 2) lkX8_227 rfl rfl rfl rfl (mem_dom0 (by decide) (by decide)) (by decide) (Nat.le_of_ble_eq_true rfl) rfl ?_
  refine x_nil (m' := sr (thr m 0) N) (by rw [if_pos h1, thr_thr]) ?_
  refine x_ifb_eq (pc := 22) 27 dX8_charge_22 (by decide) (fun c_22 => ?_) (fun c_22 => absurd c_22 (fun z => z h1))
  refine x_aload_n (pc := 27) dX8_charge_27 0 rfl ?_
  refine x_callV (pc := 28) _ dX8_charge_28 (mq_keepsN (m := thr m 0) (by rw [thr_6]; exact hm)) lkX8_341 rfl rfl rfl rfl (mem_dom0 (by decide) (by decide)) (by decide) (Nat.le_of_ble_eq_true rfl) rfl ?_
  refine x_nil (m' := sr (KM (thr m 0) N) N) rfl ?_
  refine x_aload_n (pc := 31) dX8_charge_31 0 rfl ?_
  refine y_getR (pc := 32) dX8_charge_32 flX8_9 rfl rfl rfl (by decide) ?_
  refine x_bipush (pc := 35) (z := 10) dX8_charge_35 (by decide) ?_
  refine x_dup2 (pc := 37) dX8_charge_37 rfl rfl ?_
  refine y_nald (pc := 38) dX8_charge_38 (by omega) ?_
  refine x_iload_n (pc := 39) dX8_charge_39 2 rfl ?_
  refine x_iadd (pc := 40) dX8_charge_40 ?_
  refine y_nast (pc := 41) dX8_charge_41 (by omega) ?_
  refine x_aload_n (pc := 42) dX8_charge_42 0 rfl ?_
  refine x_iload_n (pc := 43) dX8_charge_43 1 rfl ?_
  refine x_iload_n (pc := 44) dX8_charge_44 2 rfl ?_
  refine x_callV (pc := 45) _ dX8_charge_45 (mq_gets a0 a1 hpn hx) lkX8_301 rfl rfl rfl rfl (mem_dom0 (by decide) (by decide)) (by decide) (Nat.le_of_ble_eq_true rfl) rfl ?_
  refine x_aload_n (pc := 48) dX8_charge_48 0 rfl ?_
  refine x_iload_n (pc := 49) dX8_charge_49 1 rfl ?_
  refine x_iconst (pc := 50) dX8_charge_50 ?_
  refine x_callV (pc := 51) _ dX8_charge_51 (mq_ofPack a0 1 (by omega)) lkX8_189 rfl rfl rfl rfl (mem_dom0 (by decide) (by decide)) (by decide) (Nat.le_of_ble_eq_true rfl) rfl ?_
  exact y_iret (pc := 54) dX8_charge_54 rfl rfl rfl

theorem Qx_charge_0 {G : GG} {m : Mem} {N : Int → Int} (hF : NF N) {a0 a1 : Int} (ha0 : inI a0) (ha1 : inI a1)  (h0 : ¬ (0 ≤ a0 ∧ a0 < N 3)) : Ct G MX8_charge (rmD 9) [rf G 41 0, .int (iI a0), .int (iI a1)] (hp (sr m N)) (.inl (some (.int (iI (0))))) (hp (sr (thr m 1) N)) := by
  refine x_entry (by decide +kernel) mwX8_charge rfl (Nat.le_of_ble_eq_true rfl) ?_
  show X G MX8_charge (rmD 9) 0 [(0, rf G 41 0), (1, .int (iI a0)), (2, .int (iI a1))] [] (hp (sr m N)) 0 0 (.inl (some (.int (iI (0))))) (hp (sr (thr m 1) N))
  have n8 := hF.1
  have n16 := hF.2.1
  have nc8 := hF.2.2.1
  have nl16 := hF.2.2.2.1.1
  refine x_aload_n (pc := 0) dX8_charge_0 0 rfl ?_
  refine x_aload_n (pc := 1) dX8_charge_1 0 rfl ?_
  refine x_iload_n (pc := 2) dX8_charge_2 1 rfl ?_
  refine x_callV (pc := 3) _ dX8_charge_3 (mq_isPack a0 ha0 (by omega)) lkX8_234 rfl rfl rfl rfl (mem_dom0 (by decide) (by decide)) (by decide) (Nat.le_of_ble_eq_true rfl) rfl ?_
  refine x_iconst (pc := 6) dX8_charge_6 ?_
  refine x_callV (pc := 7) _ dX8_charge_7 (mq_isThrown (b := 0 ≤ a0 ∧ a0 < N 3) 1) lkX8_227 rfl rfl rfl rfl (mem_dom0 (by decide) (by decide)) (by decide) (Nat.le_of_ble_eq_true rfl) rfl ?_
  refine x_nil (m' := sr (thr m 1) N) (by rw [if_neg h0]) ?_
  refine x_ifb_ne (pc := 10) 25 dX8_charge_10 (by decide) (fun c_10 => ?_) (fun c_10 => absurd c_10 (fun z => z h0))
  refine x_iconst (pc := 25) dX8_charge_25 ?_
  exact y_iret (pc := 26) dX8_charge_26 rfl rfl rfl

theorem Qx_charge_1 {G : GG} {m : Mem} {N : Int → Int} (hF : NF N) {a0 a1 : Int} (ha0 : inI a0) (ha1 : inI a1) (h0 : 0 ≤ a0 ∧ a0 < N 3) (h1 : ¬ (1 ≤ a1 ∧ a1 ≤ 100000)) : Ct G MX8_charge (rmD 9) [rf G 41 0, .int (iI a0), .int (iI a1)] (hp (sr m N)) (.inl (some (.int (iI (0))))) (hp (sr (thr m 2) N)) := by
  refine x_entry (by decide +kernel) mwX8_charge rfl (Nat.le_of_ble_eq_true rfl) ?_
  show X G MX8_charge (rmD 9) 0 [(0, rf G 41 0), (1, .int (iI a0)), (2, .int (iI a1))] [] (hp (sr m N)) 0 0 (.inl (some (.int (iI (0))))) (hp (sr (thr m 2) N))
  have n8 := hF.1
  have n16 := hF.2.1
  have nc8 := hF.2.2.1
  have nl16 := hF.2.2.2.1.1
  refine x_aload_n (pc := 0) dX8_charge_0 0 rfl ?_
  refine x_aload_n (pc := 1) dX8_charge_1 0 rfl ?_
  refine x_iload_n (pc := 2) dX8_charge_2 1 rfl ?_
  refine x_callV (pc := 3) _ dX8_charge_3 (mq_isPack a0 ha0 (by omega)) lkX8_234 rfl rfl rfl rfl (mem_dom0 (by decide) (by decide)) (by decide) (Nat.le_of_ble_eq_true rfl) rfl ?_
  refine x_iconst (pc := 6) dX8_charge_6 ?_
  refine x_callV (pc := 7) _ dX8_charge_7 (mq_isThrown (b := 0 ≤ a0 ∧ a0 < N 3) 1) lkX8_227 rfl rfl rfl rfl (mem_dom0 (by decide) (by decide)) (by decide) (Nat.le_of_ble_eq_true rfl) rfl ?_
  refine x_nil (m' := sr (thr m 0) N) (by rw [if_pos h0]) ?_
  refine x_ifb_ne (pc := 10) 25 dX8_charge_10 (by decide) (fun c_10 => absurd c_10 (fun z => z h0)) (fun c_10 => ?_)
  refine x_aload_n (pc := 13) dX8_charge_13 0 rfl ?_
  refine x_iload_n (pc := 14) dX8_charge_14 2 rfl ?_
  refine x_callS (pc := 15) _ dX8_charge_15 (mq_isAmount a1 ha1) lkX8_281 rfl (by decide) (Nat.le_of_ble_eq_true rfl) rfl ?_
  refine x_iconst (pc := 18) dX8_charge_18 ?_
  refine x_callV (pc := 19) _ dX8_charge_19 (mq_isThrown (b := 1 ≤ a1 ∧ a1 ≤ 100000) 2) lkX8_227 rfl rfl rfl rfl (mem_dom0 (by decide) (by decide)) (by decide) (Nat.le_of_ble_eq_true rfl) rfl ?_
  refine x_nil (m' := sr (thr m 2) N) (by rw [if_neg h1, thr_thr]) ?_
  refine x_ifb_eq (pc := 22) 27 dX8_charge_22 (by decide) (fun c_22 => absurd c_22 (fun z => z h1)) (fun c_22 => ?_)
  refine x_iconst (pc := 25) dX8_charge_25 ?_
  exact y_iret (pc := 26) dX8_charge_26 rfl rfl rfl

theorem hinN_in (N : Int → Int) (c x : Int) : inI (hinN N c x) := by
  unfold hinN inI
  split <;> (first | omega | (split <;> (first | omega | (split <;> (first | omega | (split <;> omega))))))
theorem hinN_lt {N : Int → Int} {c x : Int} (h9 : N 9 ≤ 16) (h : hinN N c x = 0) : N 9 < 16 := by
  unfold hinN at h
  split at h <;> (first | omega | (split at h <;> (first | omega | (split at h <;> (first | omega | (split at h <;> omega))))))
theorem Q_lend0 {G : GG} {m : Mem} {N : Int → Int} (hF : NF N) {a0 a1 a2 : Int} (ha0 : inI a0) (ha1 : inI a1) (ha2 : inI a2) (h0 : 0 ≤ a0 ∧ a0 < N 8) (h1 : (1 ≤ a1 ∧ a1 ≤ 100000) ∧ (1 ≤ a2 ∧ a2 ≤ 999)) (hz : hinN N a0 a1 ≠ 0) : Ct G MX8_lend (rmD 9) [rf G 41 0, .int (iI a0), .int (iI a1), .int (iI a2)] (hp (sr m N)) (.inl (some (.int (iI (-10 - hinN N a0 a1))))) (hp (sr (thr m 0) N)) := by
  refine x_entry (by decide +kernel) mwX8_lend rfl (Nat.le_of_ble_eq_true rfl) ?_
  show X G MX8_lend (rmD 9) 0 [(0, rf G 41 0), (1, .int (iI a0)), (2, .int (iI a1)), (3, .int (iI a2))] [] (hp (sr m N)) 0 0 (.inl (some (.int (iI (-10 - hinN N a0 a1))))) (hp (sr (thr m 0) N))
  have n8 := hF.1
  have n16 := hF.2.1
  have nc8 := hF.2.2.1
  have nl16 := hF.2.2.2.1.1
  have kc := hF.2.2.2.2.2.2.1 a0 h0.1 h0.2
  have kc0 := kc.1
  have kp := hF.2.2.2.2.2.1 _ kc0.1 kc0.2
  have kc2 := kc.2.2.1
  have kc5 := kc.2.2.2
  have kab := kp.2.2
  have h1a := h1.1
  refine x_aload_n (pc := 0) dX8_lend_0 0 rfl ?_
  refine x_aload_n (pc := 1) dX8_lend_1 0 rfl ?_
  refine x_iload_n (pc := 2) dX8_lend_2 1 rfl ?_
  refine x_callV (pc := 3) _ dX8_lend_3 (mq_isContract a0 ha0 (by omega)) lkX8_257 rfl rfl rfl rfl (mem_dom0 (by decide) (by decide)) (by decide) (Nat.le_of_ble_eq_true rfl) rfl ?_
  refine x_iconst (pc := 6) dX8_lend_6 ?_
  refine x_callV (pc := 7) _ dX8_lend_7 (mq_isThrown (b := 0 ≤ a0 ∧ a0 < N 8) 1) lkX8_227 rfl rfl rfl rfl (mem_dom0 (by decide) (by decide)) (by decide) (Nat.le_of_ble_eq_true rfl) rfl ?_
  refine x_nil (m' := sr (thr m 0) N) (by rw [if_pos h0]) ?_
  refine x_ifb_ne (pc := 10) 45 dX8_lend_10 (by decide) (fun c_10 => absurd c_10 (fun z => z h0)) (fun c_10 => ?_)
  refine x_aload_n (pc := 13) dX8_lend_13 0 rfl ?_
  refine x_iload_n (pc := 14) dX8_lend_14 2 rfl ?_
  refine x_callS (pc := 15) _ dX8_lend_15 (mq_isAmount a1 ha1) lkX8_281 rfl (by decide) (Nat.le_of_ble_eq_true rfl) rfl ?_
  refine x_ifb_eq (pc := 18) 37 dX8_lend_18 (by decide) (fun c_18 => absurd c_18 (fun z => z h1.1)) (fun c_18 => ?_)
  refine x_iload_n (pc := 21) dX8_lend_21 3 rfl ?_
  refine x_i2l (pc := 22) dX8_lend_22 ha2 ?_
  refine x_lconst (pc := 23) (z := 1) dX8_lend_23 (by decide) ?_
  refine x_ldc2 (pc := 24) (z := 999) dX8_lend_24 kcX8_339 (by decide) ?_
  refine x_callS (pc := 27) _ dX8_lend_27 (mq_in a2 1 999 (by unfold inL; unfold inI at ha2; omega) (by unfold inL; omega) (by unfold inL; omega)) lkX8_44 rfl (by decide) (Nat.le_of_ble_eq_true rfl) rfl ?_
  refine x_ifb_eq (pc := 30) 37 dX8_lend_30 (by decide) (fun c_30 => absurd c_30 (fun z => z h1.2)) (fun c_30 => ?_)
  refine x_iconst (pc := 33) dX8_lend_33 ?_
  refine x_goto (pc := 34) 38 dX8_lend_34 (by decide) ?_
  refine x_iconst (pc := 38) dX8_lend_38 ?_
  refine x_callV (pc := 39) _ dX8_lend_39 (mq_isThrown (b := True) 2) lkX8_227 rfl rfl rfl rfl (mem_dom0 (by decide) (by decide)) (by decide) (Nat.le_of_ble_eq_true rfl) rfl ?_
  refine x_nil (m' := sr (thr m 0) N) (by rw [if_pos trivial, thr_thr]) ?_
  refine x_ifb_eq (pc := 42) 47 dX8_lend_42 (by decide) (fun c_42 => ?_) (fun c_42 => absurd c_42 (fun z => z trivial))
  refine x_aload_n (pc := 47) dX8_lend_47 0 rfl ?_
  refine x_iload_n (pc := 48) dX8_lend_48 1 rfl ?_
  refine x_iload_n (pc := 49) dX8_lend_49 2 rfl ?_
  refine x_callV (pc := 50) _ dX8_lend_50 (mq_hindered a0 a1 (by omega) (by omega) hF.2.2.2.1 (by omega) (by unfold inI; omega) (by unfold inI; omega) (by unfold inI; omega) (outN_b hF.2.2.2.1 a0)) lkX8_290 rfl rfl rfl rfl (mem_dom0 (by decide) (by decide)) (by decide) (Nat.le_of_ble_eq_true rfl) rfl ?_
  refine x_istore (pc := 53) (lv' := [(4, _), (0, _), (1, _), (2, _), (3, _)]) dX8_lend_53 (by decide) rfl ?_
  refine x_iload (pc := 55) dX8_lend_55 0 rfl ?_
  refine x_if_eq (pc := 57) 66 dX8_lend_57 (by decide) (hinN_in _ _ _) (fun c_57 => absurd c_57 hz) (fun c_57 => ?_)
  refine x_bipush (pc := 60) (z := (-10)) dX8_lend_60 (by decide) ?_
  refine x_iload (pc := 62) dX8_lend_62 0 rfl ?_
  refine x_isub (pc := 64) dX8_lend_64 ?_
  exact y_iret (pc := 65) dX8_lend_65 rfl rfl rfl

theorem Qx_lend_0 {G : GG} {m : Mem} {N : Int → Int} (hF : NF N) {a0 a1 a2 : Int} (ha0 : inI a0) (ha1 : inI a1) (ha2 : inI a2)  (h0 : ¬ (0 ≤ a0 ∧ a0 < N 8)) : Ct G MX8_lend (rmD 9) [rf G 41 0, .int (iI a0), .int (iI a1), .int (iI a2)] (hp (sr m N)) (.inl (some (.int (iI (0))))) (hp (sr (thr m 1) N)) := by
  refine x_entry (by decide +kernel) mwX8_lend rfl (Nat.le_of_ble_eq_true rfl) ?_
  show X G MX8_lend (rmD 9) 0 [(0, rf G 41 0), (1, .int (iI a0)), (2, .int (iI a1)), (3, .int (iI a2))] [] (hp (sr m N)) 0 0 (.inl (some (.int (iI (0))))) (hp (sr (thr m 1) N))
  have n8 := hF.1
  have n16 := hF.2.1
  have nc8 := hF.2.2.1
  have nl16 := hF.2.2.2.1.1
  refine x_aload_n (pc := 0) dX8_lend_0 0 rfl ?_
  refine x_aload_n (pc := 1) dX8_lend_1 0 rfl ?_
  refine x_iload_n (pc := 2) dX8_lend_2 1 rfl ?_
  refine x_callV (pc := 3) _ dX8_lend_3 (mq_isContract a0 ha0 (by omega)) lkX8_257 rfl rfl rfl rfl (mem_dom0 (by decide) (by decide)) (by decide) (Nat.le_of_ble_eq_true rfl) rfl ?_
  refine x_iconst (pc := 6) dX8_lend_6 ?_
  refine x_callV (pc := 7) _ dX8_lend_7 (mq_isThrown (b := 0 ≤ a0 ∧ a0 < N 8) 1) lkX8_227 rfl rfl rfl rfl (mem_dom0 (by decide) (by decide)) (by decide) (Nat.le_of_ble_eq_true rfl) rfl ?_
  refine x_nil (m' := sr (thr m 1) N) (by rw [if_neg h0]) ?_
  refine x_ifb_ne (pc := 10) 45 dX8_lend_10 (by decide) (fun c_10 => ?_) (fun c_10 => absurd c_10 (fun z => z h0))
  refine x_iconst (pc := 45) dX8_lend_45 ?_
  exact y_iret (pc := 46) dX8_lend_46 rfl rfl rfl

theorem Qx_lend_1 {G : GG} {m : Mem} {N : Int → Int} (hF : NF N) {a0 a1 a2 : Int} (ha0 : inI a0) (ha1 : inI a1) (ha2 : inI a2) (h0 : 0 ≤ a0 ∧ a0 < N 8) (h1 : ¬ ((1 ≤ a1 ∧ a1 ≤ 100000) ∧ (1 ≤ a2 ∧ a2 ≤ 999))) : Ct G MX8_lend (rmD 9) [rf G 41 0, .int (iI a0), .int (iI a1), .int (iI a2)] (hp (sr m N)) (.inl (some (.int (iI (0))))) (hp (sr (thr m 2) N)) := by
  refine x_entry (by decide +kernel) mwX8_lend rfl (Nat.le_of_ble_eq_true rfl) ?_
  show X G MX8_lend (rmD 9) 0 [(0, rf G 41 0), (1, .int (iI a0)), (2, .int (iI a1)), (3, .int (iI a2))] [] (hp (sr m N)) 0 0 (.inl (some (.int (iI (0))))) (hp (sr (thr m 2) N))
  have n8 := hF.1
  have n16 := hF.2.1
  have nc8 := hF.2.2.1
  have nl16 := hF.2.2.2.1.1
  refine x_aload_n (pc := 0) dX8_lend_0 0 rfl ?_
  refine x_aload_n (pc := 1) dX8_lend_1 0 rfl ?_
  refine x_iload_n (pc := 2) dX8_lend_2 1 rfl ?_
  refine x_callV (pc := 3) _ dX8_lend_3 (mq_isContract a0 ha0 (by omega)) lkX8_257 rfl rfl rfl rfl (mem_dom0 (by decide) (by decide)) (by decide) (Nat.le_of_ble_eq_true rfl) rfl ?_
  refine x_iconst (pc := 6) dX8_lend_6 ?_
  refine x_callV (pc := 7) _ dX8_lend_7 (mq_isThrown (b := 0 ≤ a0 ∧ a0 < N 8) 1) lkX8_227 rfl rfl rfl rfl (mem_dom0 (by decide) (by decide)) (by decide) (Nat.le_of_ble_eq_true rfl) rfl ?_
  refine x_nil (m' := sr (thr m 0) N) (by rw [if_pos h0]) ?_
  refine x_ifb_ne (pc := 10) 45 dX8_lend_10 (by decide) (fun c_10 => absurd c_10 (fun z => z h0)) (fun c_10 => ?_)
  refine x_aload_n (pc := 13) dX8_lend_13 0 rfl ?_
  refine x_iload_n (pc := 14) dX8_lend_14 2 rfl ?_
  refine x_callS (pc := 15) _ dX8_lend_15 (mq_isAmount a1 ha1) lkX8_281 rfl (by decide) (Nat.le_of_ble_eq_true rfl) rfl ?_
  refine x_ifb_eq (pc := 18) 37 dX8_lend_18 (by decide) (fun c_18 => ?_) (fun c_18 => ?_)
  · refine x_iconst (pc := 37) dX8_lend_37 ?_
    refine x_iconst (pc := 38) dX8_lend_38 ?_
    refine x_callV (pc := 39) _ dX8_lend_39 (mq_isThrown (b := False) 2) lkX8_227 rfl rfl rfl rfl (mem_dom0 (by decide) (by decide)) (by decide) (Nat.le_of_ble_eq_true rfl) rfl ?_
    refine x_nil (m' := sr (thr m 2) N) (by rw [if_neg id, thr_thr]) ?_
    refine x_ifb_eq (pc := 42) 47 dX8_lend_42 (by decide) (fun c_42 => absurd c_42 (fun z => z id)) (fun c_42 => ?_)
    refine x_iconst (pc := 45) dX8_lend_45 ?_
    exact y_iret (pc := 46) dX8_lend_46 rfl rfl rfl
  · refine x_iload_n (pc := 21) dX8_lend_21 3 rfl ?_
    refine x_i2l (pc := 22) dX8_lend_22 ha2 ?_
    refine x_lconst (pc := 23) (z := 1) dX8_lend_23 (by decide) ?_
    refine x_ldc2 (pc := 24) (z := 999) dX8_lend_24 kcX8_339 (by decide) ?_
    refine x_callS (pc := 27) _ dX8_lend_27 (mq_in a2 1 999 (by unfold inL; unfold inI at ha2; omega) (by unfold inL; omega) (by unfold inL; omega)) lkX8_44 rfl (by decide) (Nat.le_of_ble_eq_true rfl) rfl ?_
    refine x_ifb_eq (pc := 30) 37 dX8_lend_30 (by decide) (fun c_30 => ?_) (fun c_30 => absurd c_30 (fun z => h1 ⟨c_18, z⟩))
    refine x_iconst (pc := 37) dX8_lend_37 ?_
    refine x_iconst (pc := 38) dX8_lend_38 ?_
    refine x_callV (pc := 39) _ dX8_lend_39 (mq_isThrown (b := False) 2) lkX8_227 rfl rfl rfl rfl (mem_dom0 (by decide) (by decide)) (by decide) (Nat.le_of_ble_eq_true rfl) rfl ?_
    refine x_nil (m' := sr (thr m 2) N) (by rw [if_neg id, thr_thr]) ?_
    refine x_ifb_eq (pc := 42) 47 dX8_lend_42 (by decide) (fun c_42 => absurd c_42 (fun z => z id)) (fun c_42 => ?_)
    refine x_iconst (pc := 45) dX8_lend_45 ?_
    exact y_iret (pc := 46) dX8_lend_46 rfl rfl rfl

theorem Q_lend1 {G : GG} {m : Mem} {N : Int → Int} (hF : NF N) {a0 a1 a2 : Int} (ha0 : inI a0) (ha1 : inI a1) (ha2 : inI a2) (h0 : 0 ≤ a0 ∧ a0 < N 8) (h1 : (1 ≤ a1 ∧ a1 ≤ 100000) ∧ (1 ≤ a2 ∧ a2 ≤ 999)) (hm : 0 ≤ m 41 0 6 ∧ m 41 0 6 ≤ 8) (hz : hinN N a0 a1 = 0) : Ct G MX8_lend (rmD 9) [rf G 41 0, .int (iI a0), .int (iI a1), .int (iI a2)] (hp (sr m N)) (.inl (some (.int (iI (N 9))))) (hp (sr (KM (thr m 0) N) (ldN N a0 a1 a2))) := by
  refine x_entry (by decide +kernel) mwX8_lend rfl (Nat.le_of_ble_eq_true rfl) ?_
  show X G MX8_lend (rmD 9) 0 [(0, rf G 41 0), (1, .int (iI a0)), (2, .int (iI a1)), (3, .int (iI a2))] [] (hp (sr m N)) 0 0 (.inl (some (.int (iI (N 9))))) (hp (sr (KM (thr m 0) N) (ldN N a0 a1 a2)))
  have n8 := hF.1
  have n16 := hF.2.1
  have nc8 := hF.2.2.1
  have nl16 := hF.2.2.2.1.1
  have kc := hF.2.2.2.2.2.2.1 a0 h0.1 h0.2
  have kc0 := kc.1
  have kp := hF.2.2.2.2.2.1 _ kc0.1 kc0.2
  have kc2 := kc.2.2.1
  have kc5 := kc.2.2.2
  have kab := kp.2.2
  have h1a := h1.1
  refine x_aload_n (pc := 0) dX8_lend_0 0 rfl ?_
  refine x_aload_n (pc := 1) dX8_lend_1 0 rfl ?_
  refine x_iload_n (pc := 2) dX8_lend_2 1 rfl ?_
  refine x_callV (pc := 3) _ dX8_lend_3 (mq_isContract a0 ha0 (by omega)) lkX8_257 rfl rfl rfl rfl (mem_dom0 (by decide) (by decide)) (by decide) (Nat.le_of_ble_eq_true rfl) rfl ?_
  refine x_iconst (pc := 6) dX8_lend_6 ?_
  refine x_callV (pc := 7) _ dX8_lend_7 (mq_isThrown (b := 0 ≤ a0 ∧ a0 < N 8) 1) lkX8_227 rfl rfl rfl rfl (mem_dom0 (by decide) (by decide)) (by decide) (Nat.le_of_ble_eq_true rfl) rfl ?_
  refine x_nil (m' := sr (thr m 0) N) (by rw [if_pos h0]) ?_
  refine x_ifb_ne (pc := 10) 45 dX8_lend_10 (by decide) (fun c_10 => absurd c_10 (fun z => z h0)) (fun c_10 => ?_)
  refine x_aload_n (pc := 13) dX8_lend_13 0 rfl ?_
  refine x_iload_n (pc := 14) dX8_lend_14 2 rfl ?_
  refine x_callS (pc := 15) _ dX8_lend_15 (mq_isAmount a1 ha1) lkX8_281 rfl (by decide) (Nat.le_of_ble_eq_true rfl) rfl ?_
  refine x_ifb_eq (pc := 18) 37 dX8_lend_18 (by decide) (fun c_18 => absurd c_18 (fun z => z h1.1)) (fun c_18 => ?_)
  refine x_iload_n (pc := 21) dX8_lend_21 3 rfl ?_
  refine x_i2l (pc := 22) dX8_lend_22 ha2 ?_
  refine x_lconst (pc := 23) (z := 1) dX8_lend_23 (by decide) ?_
  refine x_ldc2 (pc := 24) (z := 999) dX8_lend_24 kcX8_339 (by decide) ?_
  refine x_callS (pc := 27) _ dX8_lend_27 (mq_in a2 1 999 (by unfold inL; unfold inI at ha2; omega) (by unfold inL; omega) (by unfold inL; omega)) lkX8_44 rfl (by decide) (Nat.le_of_ble_eq_true rfl) rfl ?_
  refine x_ifb_eq (pc := 30) 37 dX8_lend_30 (by decide) (fun c_30 => absurd c_30 (fun z => z h1.2)) (fun c_30 => ?_)
  refine x_iconst (pc := 33) dX8_lend_33 ?_
  refine x_goto (pc := 34) 38 dX8_lend_34 (by decide) ?_
  refine x_iconst (pc := 38) dX8_lend_38 ?_
  refine x_callV (pc := 39) _ dX8_lend_39 (mq_isThrown (b := True) 2) lkX8_227 rfl rfl rfl rfl (mem_dom0 (by decide) (by decide)) (by decide) (Nat.le_of_ble_eq_true rfl) rfl ?_
  refine x_nil (m' := sr (thr m 0) N) (by rw [if_pos trivial, thr_thr]) ?_
  refine x_ifb_eq (pc := 42) 47 dX8_lend_42 (by decide) (fun c_42 => ?_) (fun c_42 => absurd c_42 (fun z => z trivial))
  refine x_aload_n (pc := 47) dX8_lend_47 0 rfl ?_
  refine x_iload_n (pc := 48) dX8_lend_48 1 rfl ?_
  refine x_iload_n (pc := 49) dX8_lend_49 2 rfl ?_
  refine x_callV (pc := 50) _ dX8_lend_50 (mq_hindered a0 a1 (by omega) (by omega) hF.2.2.2.1 (by omega) (by unfold inI; omega) (by unfold inI; omega) (by unfold inI; omega) (outN_b hF.2.2.2.1 a0)) lkX8_290 rfl rfl rfl rfl (mem_dom0 (by decide) (by decide)) (by decide) (Nat.le_of_ble_eq_true rfl) rfl ?_
  refine x_istore (pc := 53) (lv' := [(4, _), (0, _), (1, _), (2, _), (3, _)]) dX8_lend_53 (by decide) rfl ?_
  refine x_iload (pc := 55) dX8_lend_55 0 rfl ?_
  refine x_if_eq (pc := 57) 66 dX8_lend_57 (by decide) (hinN_in _ _ _) (fun c_57 => ?_) (fun c_57 => absurd c_57 (fun z => z hz))
  refine x_aload_n (pc := 66) dX8_lend_66 1 rfl ?_
  refine x_callV (pc := 67) _ dX8_lend_67 (mq_keepsN (m := thr m 0) (by rw [thr_6]; exact hm)) lkX8_341 rfl rfl rfl rfl (mem_dom0 (by decide) (by decide)) (by decide) (Nat.le_of_ble_eq_true rfl) rfl ?_
  refine x_nil (m' := sr (KM (thr m 0) N) N) rfl ?_
  refine x_aload_n (pc := 70) dX8_lend_70 1 rfl ?_
  refine x_iload_n (pc := 71) dX8_lend_71 2 rfl ?_
  refine x_iload_n (pc := 72) dX8_lend_72 3 rfl ?_
  refine x_iload_n (pc := 73) dX8_lend_73 4 rfl ?_
  refine x_callV (pc := 74) _ dX8_lend_74 (mq_lends a0 a1 a2 (by have := hinN_lt nl16.2 hz; omega)) lkX8_344 rfl rfl rfl rfl (mem_dom0 (by decide) (by decide)) (by decide) (Nat.le_of_ble_eq_true rfl) rfl ?_
  exact y_iret (pc := 77) dX8_lend_77 rfl rfl rfl
