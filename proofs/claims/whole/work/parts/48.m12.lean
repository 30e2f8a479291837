theorem Q_endIn {G : GG} {m : Mem} {N : Int → Int} (hF : NF N) {a0 : Int} (ha0 : inI a0) (h0 : 0 ≤ a0 ∧ a0 < N 9) {c9 : Mem} {p s : Nat} (hP : BP c9 p) (hB : BS c9 p s) (hR : RP c9 p N) (hS : RS c9 p s N) (ht : c9 0 s 0 ≤ 9999) (h2 : a0 < c9 2 s 0) : Ct G MX8_endIn (rmD 10) [rf G 41 0, .int (iI a0)] (hp (sr m N)) (.inl (some (.int (iI (if enR N a0 500 (318 + 7 * a0 + 5) ≤ 2 then -1 else enC N a0 500))))) (hp (asX (up3 (thr m 0) 41 0 18 (enR N a0 500 (318 + 7 * a0 + 5))) N N)) := by
  refine x_entry (by decide +kernel) mwX8_endIn rfl (Nat.le_of_ble_eq_true rfl) ?_
  show X G MX8_endIn (rmD 10) 0 [(0, rf G 41 0), (1, .int (iI a0))] [] (hp (sr m N)) 0 0 (.inl (some (.int (iI (if enR N a0 500 (318 + 7 * a0 + 5) ≤ 2 then -1 else enC N a0 500))))) (hp (asX (up3 (thr m 0) 41 0 18 (enR N a0 500 (318 + 7 * a0 + 5))) N N))
  have n8 := hF.1
  have n16 := hF.2.1
  have nc8 := hF.2.2.1
  have nl16 := hF.2.2.2.1.1
  refine x_aload_n (pc := 0) dX8_endIn_0 0 rfl ?_
  refine x_aload_n (pc := 1) dX8_endIn_1 0 rfl ?_
  refine x_iload_n (pc := 2) dX8_endIn_2 1 rfl ?_
  refine x_callV (pc := 3) _ dX8_endIn_3 (mq_isLoan a0 ha0 (by omega)) lkX8_269 rfl rfl rfl rfl (mem_dom0 (by decide) (by decide)) (by decide) (Nat.le_of_ble_eq_true rfl) rfl ?_
  refine x_iconst (pc := 6) dX8_endIn_6 ?_
  refine x_callV (pc := 7) _ dX8_endIn_7 (mq_isThrown (b := 0 ≤ a0 ∧ a0 < N 9) 1) lkX8_227 rfl rfl rfl rfl (mem_dom0 (by decide) (by decide)) (by decide) (Nat.le_of_ble_eq_true rfl) rfl ?_
  refine x_nil (m' := sr (thr m 0) N) (by rw [if_pos h0]) ?_
  refine x_ifb_eq (pc := 10) 17 dX8_endIn_10 (by decide) (fun c_10 => ?_) (fun c_10 => absurd c_10 (fun z => z h0))
  refine x_aload_n (pc := 17) dX8_endIn_17 0 rfl ?_
  refine x_iload_n (pc := 18) dX8_endIn_18 1 rfl ?_
  refine x_callV (pc := 19) _ dX8_endIn_19 (mq_ends (m := thr m 0) hP hB hR hS ht a0 (by omega) h2) lkX8_380 rfl rfl rfl rfl (mem_dom0 (by decide) (by decide)) (by decide) (Nat.le_of_ble_eq_true rfl) rfl ?_
  exact y_iret (pc := 22) dX8_endIn_22 rfl rfl rfl

theorem Qx_endIn_0 {G : GG} {m : Mem} {N : Int → Int} (hF : NF N) {a0 : Int} (ha0 : inI a0)  (h0 : ¬ (0 ≤ a0 ∧ a0 < N 9)) : Ct G MX8_endIn (rmD 10) [rf G 41 0, .int (iI a0)] (hp (sr m N)) (.inl (some (.int (iI (0))))) (hp (sr (thr m 1) N)) := by
  refine x_entry (by decide +kernel) mwX8_endIn rfl (Nat.le_of_ble_eq_true rfl) ?_
  show X G MX8_endIn (rmD 10) 0 [(0, rf G 41 0), (1, .int (iI a0))] [] (hp (sr m N)) 0 0 (.inl (some (.int (iI (0))))) (hp (sr (thr m 1) N))
  have n8 := hF.1
  have n16 := hF.2.1
  have nc8 := hF.2.2.1
  have nl16 := hF.2.2.2.1.1
  refine x_aload_n (pc := 0) dX8_endIn_0 0 rfl ?_
  refine x_aload_n (pc := 1) dX8_endIn_1 0 rfl ?_
  refine x_iload_n (pc := 2) dX8_endIn_2 1 rfl ?_
  refine x_callV (pc := 3) _ dX8_endIn_3 (mq_isLoan a0 ha0 (by omega)) lkX8_269 rfl rfl rfl rfl (mem_dom0 (by decide) (by decide)) (by decide) (Nat.le_of_ble_eq_true rfl) rfl ?_
  refine x_iconst (pc := 6) dX8_endIn_6 ?_
  refine x_callV (pc := 7) _ dX8_endIn_7 (mq_isThrown (b := 0 ≤ a0 ∧ a0 < N 9) 1) lkX8_227 rfl rfl rfl rfl (mem_dom0 (by decide) (by decide)) (by decide) (Nat.le_of_ble_eq_true rfl) rfl ?_
  refine x_nil (m' := sr (thr m 1) N) (by rw [if_neg h0]) ?_
  refine x_ifb_eq (pc := 10) 17 dX8_endIn_10 (by decide) (fun c_10 => absurd c_10 (fun z => z h0)) (fun c_10 => ?_)
  refine x_iconst (pc := 13) dX8_endIn_13 ?_
  refine x_goto (pc := 14) 22 dX8_endIn_14 (by decide) ?_
  exact y_iret (pc := 22) dX8_endIn_22 rfl rfl rfl

theorem Q_endAs {G : GG} {m : Mem} {N : Int → Int} (hF : NF N) {a0 : Int} (ha0 : inI a0) (h0 : 0 ≤ a0 ∧ a0 < N 9) {c9 : Mem} {p s : Nat} (hP : BP c9 p) (hB : BS c9 p s) (hR : RP c9 p N) (hS : RS c9 p s N) (ht : c9 0 s 0 ≤ 9999) (h2 : a0 < c9 2 s 0) : Ct G MX8_endAs (rmD 10) [rf G 41 0, .int (iI a0)] (hp (sr m N)) (.inl (some (.int (iI (enR N a0 500 (318 + 7 * a0 + 5)))))) (hp (asX (up3 (thr m 0) 41 0 18 (enR N a0 500 (318 + 7 * a0 + 5))) N N)) := by
  refine x_entry (by decide +kernel) mwX8_endAs rfl (Nat.le_of_ble_eq_true rfl) ?_
  show X G MX8_endAs (rmD 10) 0 [(0, rf G 41 0), (1, .int (iI a0))] [] (hp (sr m N)) 0 0 (.inl (some (.int (iI (enR N a0 500 (318 + 7 * a0 + 5)))))) (hp (asX (up3 (thr m 0) 41 0 18 (enR N a0 500 (318 + 7 * a0 + 5))) N N))
  have n8 := hF.1
  have n16 := hF.2.1
  have nc8 := hF.2.2.1
  have nl16 := hF.2.2.2.1.1
  refine x_aload_n (pc := 0) dX8_endAs_0 0 rfl ?_
  refine x_aload_n (pc := 1) dX8_endAs_1 0 rfl ?_
  refine x_iload_n (pc := 2) dX8_endAs_2 1 rfl ?_
  refine x_callV (pc := 3) _ dX8_endAs_3 (mq_isLoan a0 ha0 (by omega)) lkX8_269 rfl rfl rfl rfl (mem_dom0 (by decide) (by decide)) (by decide) (Nat.le_of_ble_eq_true rfl) rfl ?_
  refine x_iconst (pc := 6) dX8_endAs_6 ?_
  refine x_callV (pc := 7) _ dX8_endAs_7 (mq_isThrown (b := 0 ≤ a0 ∧ a0 < N 9) 1) lkX8_227 rfl rfl rfl rfl (mem_dom0 (by decide) (by decide)) (by decide) (Nat.le_of_ble_eq_true rfl) rfl ?_
  refine x_nil (m' := sr (thr m 0) N) (by rw [if_pos h0]) ?_
  refine x_ifb_eq (pc := 10) 15 dX8_endAs_10 (by decide) (fun c_10 => ?_) (fun c_10 => absurd c_10 (fun z => z h0))
  refine x_aload_n (pc := 15) dX8_endAs_15 0 rfl ?_
  refine x_iload_n (pc := 16) dX8_endAs_16 1 rfl ?_
  refine x_callV (pc := 17) _ dX8_endAs_17 (mq_ends (m := thr m 0) hP hB hR hS ht a0 (by omega) h2) lkX8_380 rfl rfl rfl rfl (mem_dom0 (by decide) (by decide)) (by decide) (Nat.le_of_ble_eq_true rfl) rfl ?_
  refine x_istore_n (pc := 20) (lv' := [(2, _), (0, _), (1, _)]) dX8_endAs_20 rfl (by decide) rfl ?_
  refine x_aload_n (pc := 21) dX8_endAs_21 1 rfl ?_
  refine y_getM (pc := 22) 18 dX8_endAs_22 flX8_377 rfl rfl rfl ?_
  refine x_top (v' := .int (iI (enR N a0 500 (318 + 7 * a0 + 5)))) (by rw [cpX_k (by decide), sr_k (by decide), up3_at]) ?_
  exact y_iret (pc := 25) dX8_endAs_25 rfl rfl rfl

theorem Qx_endAs_0 {G : GG} {m : Mem} {N : Int → Int} (hF : NF N) {a0 : Int} (ha0 : inI a0)  (h0 : ¬ (0 ≤ a0 ∧ a0 < N 9)) : Ct G MX8_endAs (rmD 10) [rf G 41 0, .int (iI a0)] (hp (sr m N)) (.inl (some (.int (iI (0))))) (hp (sr (thr m 1) N)) := by
  refine x_entry (by decide +kernel) mwX8_endAs rfl (Nat.le_of_ble_eq_true rfl) ?_
  show X G MX8_endAs (rmD 10) 0 [(0, rf G 41 0), (1, .int (iI a0))] [] (hp (sr m N)) 0 0 (.inl (some (.int (iI (0))))) (hp (sr (thr m 1) N))
  have n8 := hF.1
  have n16 := hF.2.1
  have nc8 := hF.2.2.1
  have nl16 := hF.2.2.2.1.1
  refine x_aload_n (pc := 0) dX8_endAs_0 0 rfl ?_
  refine x_aload_n (pc := 1) dX8_endAs_1 0 rfl ?_
  refine x_iload_n (pc := 2) dX8_endAs_2 1 rfl ?_
  refine x_callV (pc := 3) _ dX8_endAs_3 (mq_isLoan a0 ha0 (by omega)) lkX8_269 rfl rfl rfl rfl (mem_dom0 (by decide) (by decide)) (by decide) (Nat.le_of_ble_eq_true rfl) rfl ?_
  refine x_iconst (pc := 6) dX8_endAs_6 ?_
  refine x_callV (pc := 7) _ dX8_endAs_7 (mq_isThrown (b := 0 ≤ a0 ∧ a0 < N 9) 1) lkX8_227 rfl rfl rfl rfl (mem_dom0 (by decide) (by decide)) (by decide) (Nat.le_of_ble_eq_true rfl) rfl ?_
  refine x_nil (m' := sr (thr m 1) N) (by rw [if_neg h0]) ?_
  refine x_ifb_eq (pc := 10) 15 dX8_endAs_10 (by decide) (fun c_10 => absurd c_10 (fun z => z h0)) (fun c_10 => ?_)
  refine x_iconst (pc := 13) dX8_endAs_13 ?_
  exact y_iret (pc := 14) dX8_endAs_14 rfl rfl rfl

theorem Q_run {G : GG} {m : Mem} {N : Int → Int} (hF : NF N) {a0 : Int} (ha0 : inI a0) (hn2 : 0 ≤ N 2 ∧ N 2 ≤ 11000) (h0 : (1 ≤ a0 ∧ a0 ≤ 1000) ∧ (¬ 9999 < N 2 + a0)) (hm : 0 ≤ m 41 0 6 ∧ m 41 0 6 ≤ 8) {c9 : Mem} {p s : Nat} (hP : BP c9 p) (hB : BS c9 p s) (hR : RP c9 p N) (hS : RS c9 p s N) (ht : c9 0 s 0 ≤ 9999) (h2 : c9 0 s 0 = N 2) : Ct G MX8_run (rmD 9) [rf G 41 0, .int (iI a0)] (hp (sr m N)) (.inl (some (.int (iI (tkNL N a0.toNat 2))))) (hp (sr (KM (thr m 0) N) (tkNL N a0.toNat))) := by
  refine x_entry (by decide +kernel) mwX8_run rfl (Nat.le_of_ble_eq_true rfl) ?_
  show X G MX8_run (rmD 9) 0 [(0, rf G 41 0), (1, .int (iI a0))] [] (hp (sr m N)) 0 0 (.inl (some (.int (iI (tkNL N a0.toNat 2))))) (hp (sr (KM (thr m 0) N) (tkNL N a0.toNat)))
  have n8 := hF.1
  have n16 := hF.2.1
  have nc8 := hF.2.2.1
  have nl16 := hF.2.2.2.1.1
  refine x_aload_n (pc := 0) dX8_run_0 0 rfl ?_
  refine x_iload_n (pc := 1) dX8_run_1 1 rfl ?_
  refine x_i2l (pc := 2) dX8_run_2 ha0 ?_
  refine x_lconst (pc := 3) (z := 1) dX8_run_3 (by decide) ?_
  refine x_ldc2 (pc := 4) (z := 1000) dX8_run_4 kcX8_293 (by decide) ?_
  refine x_callS (pc := 7) _ dX8_run_7 (mq_in a0 1 1000 (by unfold inL; unfold inI at ha0; omega) (by unfold inL; omega) (by unfold inL; omega)) lkX8_44 rfl (by decide) (Nat.le_of_ble_eq_true rfl) rfl ?_
  refine x_ifb_eq (pc := 10) 31 dX8_run_10 (by decide) (fun c_10 => absurd c_10 (fun z => z h0.1)) (fun c_10 => ?_)
  refine x_aload_n (pc := 13) dX8_run_13 0 rfl ?_
  refine y_getR (pc := 14) dX8_run_14 flX8_9 rfl rfl rfl (by decide) ?_
  refine x_iconst (pc := 17) dX8_run_17 ?_
  refine y_nald (pc := 18) dX8_run_18 (by omega) ?_
  refine x_iload_n (pc := 19) dX8_run_19 1 rfl ?_
  refine x_iadd (pc := 20) dX8_run_20 ?_
  refine x_sipush (pc := 21) (z := 9999) dX8_run_21 (by decide) ?_
  refine x_icmp_gt (pc := 24) 31 dX8_run_24 (by decide) (by unfold inI; omega) (by unfold inI; omega) (fun c_24 => (by exfalso; omega)) (fun c_24 => ?_)
  refine x_iconst (pc := 27) dX8_run_27 ?_
  refine x_goto (pc := 28) 32 dX8_run_28 (by decide) ?_
  refine x_iconst (pc := 32) dX8_run_32 ?_
  refine x_callV (pc := 33) _ dX8_run_33 (mq_isThrown (b := True) 1) lkX8_227 rfl rfl rfl rfl (mem_dom0 (by decide) (by decide)) (by decide) (Nat.le_of_ble_eq_true rfl) rfl ?_
  refine x_nil (m' := sr (thr m 0) N) (by rw [if_pos trivial]) ?_
  refine x_ifb_eq (pc := 36) 41 dX8_run_36 (by decide) (fun c_36 => ?_) (fun c_36 => absurd c_36 (fun z => z trivial))
  refine x_aload_n (pc := 41) dX8_run_41 0 rfl ?_
  refine x_callV (pc := 42) _ dX8_run_42 (mq_keepsN (m := thr m 0) (by rw [thr_6]; exact hm)) lkX8_341 rfl rfl rfl rfl (mem_dom0 (by decide) (by decide)) (by decide) (Nat.le_of_ble_eq_true rfl) rfl ?_
  refine x_nil (m' := sr (KM (thr m 0) N) N) rfl ?_
  refine x_iconst (pc := 45) dX8_run_45 ?_
  refine x_istore_n (pc := 46) (lv' := [(2, _), (0, _), (1, _)]) dX8_run_46 rfl (by decide) rfl ?_
  exact x_lv [0, 1, 2] rfl (lp_run a0 (by omega) _ a0.toNat c9 N 0 hP hB hR hS (by omega) (by omega) (by omega) rfl)

theorem Qx_run_0 {G : GG} {m : Mem} {N : Int → Int} (hF : NF N) {a0 : Int} (ha0 : inI a0) (hn2 : 0 ≤ N 2 ∧ N 2 ≤ 11000)  (h0 : ¬ ((1 ≤ a0 ∧ a0 ≤ 1000) ∧ (¬ 9999 < N 2 + a0))) : Ct G MX8_run (rmD 9) [rf G 41 0, .int (iI a0)] (hp (sr m N)) (.inl (some (.int (iI (0))))) (hp (sr (thr m 1) N)) := by
  refine x_entry (by decide +kernel) mwX8_run rfl (Nat.le_of_ble_eq_true rfl) ?_
  show X G MX8_run (rmD 9) 0 [(0, rf G 41 0), (1, .int (iI a0))] [] (hp (sr m N)) 0 0 (.inl (some (.int (iI (0))))) (hp (sr (thr m 1) N))
  have n8 := hF.1
  have n16 := hF.2.1
  have nc8 := hF.2.2.1
  have nl16 := hF.2.2.2.1.1
  refine x_aload_n (pc := 0) dX8_run_0 0 rfl ?_
  refine x_iload_n (pc := 1) dX8_run_1 1 rfl ?_
  refine x_i2l (pc := 2) dX8_run_2 ha0 ?_
  refine x_lconst (pc := 3) (z := 1) dX8_run_3 (by decide) ?_
  refine x_ldc2 (pc := 4) (z := 1000) dX8_run_4 kcX8_293 (by decide) ?_
  refine x_callS (pc := 7) _ dX8_run_7 (mq_in a0 1 1000 (by unfold inL; unfold inI at ha0; omega) (by unfold inL; omega) (by unfold inL; omega)) lkX8_44 rfl (by decide) (Nat.le_of_ble_eq_true rfl) rfl ?_
  refine x_ifb_eq (pc := 10) 31 dX8_run_10 (by decide) (fun c_10 => ?_) (fun c_10 => ?_)
  · refine x_iconst (pc := 31) dX8_run_31 ?_
    refine x_iconst (pc := 32) dX8_run_32 ?_
    refine x_callV (pc := 33) _ dX8_run_33 (mq_isThrown (b := False) 1) lkX8_227 rfl rfl rfl rfl (mem_dom0 (by decide) (by decide)) (by decide) (Nat.le_of_ble_eq_true rfl) rfl ?_
    refine x_nil (m' := sr (thr m 1) N) (by rw [if_neg id]) ?_
    refine x_ifb_eq (pc := 36) 41 dX8_run_36 (by decide) (fun c_36 => absurd c_36 (fun z => z id)) (fun c_36 => ?_)
    refine x_iconst (pc := 39) dX8_run_39 ?_
    exact y_iret (pc := 40) dX8_run_40 rfl rfl rfl
  · refine x_aload_n (pc := 13) dX8_run_13 0 rfl ?_
    refine y_getR (pc := 14) dX8_run_14 flX8_9 rfl rfl rfl (by decide) ?_
    refine x_iconst (pc := 17) dX8_run_17 ?_
    refine y_nald (pc := 18) dX8_run_18 (by omega) ?_
    refine x_iload_n (pc := 19) dX8_run_19 1 rfl ?_
    refine x_iadd (pc := 20) dX8_run_20 ?_
    refine x_sipush (pc := 21) (z := 9999) dX8_run_21 (by decide) ?_
    refine x_icmp_gt (pc := 24) 31 dX8_run_24 (by decide) (by unfold inI; omega) (by unfold inI; omega) (fun c_24 => ?_) (fun c_24 => absurd c_24 (fun z => h0 ⟨c_10, z⟩))
    refine x_iconst (pc := 31) dX8_run_31 ?_
    refine x_iconst (pc := 32) dX8_run_32 ?_
    refine x_callV (pc := 33) _ dX8_run_33 (mq_isThrown (b := False) 1) lkX8_227 rfl rfl rfl rfl (mem_dom0 (by decide) (by decide)) (by decide) (Nat.le_of_ble_eq_true rfl) rfl ?_
    refine x_nil (m' := sr (thr m 1) N) (by rw [if_neg id]) ?_
    refine x_ifb_eq (pc := 36) 41 dX8_run_36 (by decide) (fun c_36 => absurd c_36 (fun z => z id)) (fun c_36 => ?_)
    refine x_iconst (pc := 39) dX8_run_39 ?_
    exact y_iret (pc := 40) dX8_run_40 rfl rfl rfl

theorem Q_undo0 {G : GG} {m : Mem} {N : Int → Int} (hF : NF N)   (hz : m 41 0 6 = 0) : Ct G MX8_undo (rmD 9) [rf G 41 0] (hp (sr m N)) (.inl (some (.int (iI (-1))))) (hp (sr (thr m 0) N)) := by
  refine x_entry (by decide +kernel) mwX8_undo rfl (Nat.le_of_ble_eq_true rfl) ?_
  show X G MX8_undo (rmD 9) 0 [(0, rf G 41 0)] [] (hp (sr m N)) 0 0 (.inl (some (.int (iI (-1))))) (hp (sr (thr m 0) N))
  have n8 := hF.1
  have n16 := hF.2.1
  have nc8 := hF.2.2.1
  have nl16 := hF.2.2.2.1.1
  refine x_aload_n (pc := 0) dX8_undo_0 0 rfl ?_
  refine x_iconst (pc := 1) dX8_undo_1 ?_
  refine y_putM (pc := 2) 7 dX8_undo_2 fwX8_41 rfl rfl rfl ?_
  refine x_aload_n (pc := 5) dX8_undo_5 0 rfl ?_
  refine y_getM (pc := 6) 6 dX8_undo_6 flX8_186 rfl rfl rfl ?_
  refine x_top (v' := .int (iI (m 41 0 6))) (by rw [up3_off (by decide)]) ?_
  refine x_if_ne (pc := 9) 14 dX8_undo_9 (by decide) (by unfold inI; omega) (fun c_9 => absurd c_9 (fun z => z hz)) (fun c_9 => ?_)
  refine x_iconst (pc := 12) dX8_undo_12 ?_
  exact y_iret (pc := 13) dX8_undo_13 rfl rfl rfl

theorem Q_undo1 {G : GG} {m : Mem} {N : Int → Int} (hF : NF N)   (hz : 1 ≤ m 41 0 6 ∧ m 41 0 6 ≤ 8) : Ct G MX8_undo (rmD 9) [rf G 41 0] (hp (sr m N)) (.inl (some (.int (iI (m 41 0 6 - 1))))) (hp (cpX (sr (up3 (thr m 0) 41 0 6 (m 41 0 6 - 1)) N) 45 42 (m 41 0 6 - 1) 0 430)) := by
  refine x_entry (by decide +kernel) mwX8_undo rfl (Nat.le_of_ble_eq_true rfl) ?_
  show X G MX8_undo (rmD 9) 0 [(0, rf G 41 0)] [] (hp (sr m N)) 0 0 (.inl (some (.int (iI (m 41 0 6 - 1))))) (hp (cpX (sr (up3 (thr m 0) 41 0 6 (m 41 0 6 - 1)) N) 45 42 (m 41 0 6 - 1) 0 430))
  have n8 := hF.1
  have n16 := hF.2.1
  have nc8 := hF.2.2.1
  have nl16 := hF.2.2.2.1.1
  refine x_aload_n (pc := 0) dX8_undo_0 0 rfl ?_
  refine x_iconst (pc := 1) dX8_undo_1 ?_
  refine y_putM (pc := 2) 7 dX8_undo_2 fwX8_41 rfl rfl rfl ?_
  refine x_aload_n (pc := 5) dX8_undo_5 0 rfl ?_
  refine y_getM (pc := 6) 6 dX8_undo_6 flX8_186 rfl rfl rfl ?_
  refine x_top (v' := .int (iI (m 41 0 6))) (by rw [up3_off (by decide)]) ?_
  refine x_if_ne (pc := 9) 14 dX8_undo_9 (by decide) (by unfold inI; omega) (fun c_9 => ?_) (fun c_9 => (by exfalso; omega))
  refine x_aload_n (pc := 14) dX8_undo_14 0 rfl ?_
  refine x_dup (pc := 15) dX8_undo_15 rfl ?_
  refine y_getM (pc := 16) 6 dX8_undo_16 flX8_186 rfl rfl rfl ?_
  refine x_top (v' := .int (iI (m 41 0 6))) (by rw [up3_off (by decide)]) ?_
  refine x_iconst (pc := 19) dX8_undo_19 ?_
  refine x_isub (pc := 20) dX8_undo_20 ?_
  refine y_putM (pc := 21) 6 dX8_undo_21 fwX8_186 rfl rfl rfl ?_
  refine x_aload_n (pc := 24) dX8_undo_24 0 rfl ?_
  refine y_getR (pc := 25) dX8_undo_25 flX8_19 rfl rfl rfl (by decide) ?_
  refine x_aload_n (pc := 28) dX8_undo_28 0 rfl ?_
  refine y_getM (pc := 29) 6 dX8_undo_29 flX8_186 rfl rfl rfl ?_
  refine x_top (v' := .int (iI (m 41 0 6 - 1))) (by rw [up3_at]) ?_
  refine x_aload_n (pc := 32) dX8_undo_32 0 rfl ?_
  refine y_getR (pc := 33) dX8_undo_33 flX8_9 rfl rfl rfl (by decide) ?_
  refine x_iconst (pc := 36) dX8_undo_36 ?_
  refine x_callS (pc := 37) _ dX8_undo_37 (mq_cp45_42 (m 41 0 6 - 1) 0 (by omega) (by omega)) lkX8_183 rfl (by decide) (Nat.le_of_ble_eq_true rfl) rfl ?_
  refine x_nil (m' := sr (cpX (sr (up3 (thr m 0) 41 0 6 (m 41 0 6 - 1)) N) 45 42 (m 41 0 6 - 1) 0 430) ((cpX (sr (up3 (thr m 0) 41 0 6 (m 41 0 6 - 1)) N) 45 42 (m 41 0 6 - 1) 0 430) 42 0)) (sr_keep rfl) ?_
  refine x_aload_n (pc := 40) dX8_undo_40 0 rfl ?_
  refine y_getM (pc := 41) 6 dX8_undo_41 flX8_186 rfl rfl rfl ?_
  refine x_top (v' := .int (iI (m 41 0 6 - 1))) (by rw [cpX_k (by decide), sr_k (by decide), up3_at]) ?_
  exact y_iret (pc := 44) dX8_undo_44 rfl rfl (sr_keep rfl).symm
