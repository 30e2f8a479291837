theorem Q_drain {G : GG} {m : Mem} {N : Int → Int} (hF : NF N) {a0 a1 : Int} (ha0 : inI a0) (ha1 : inI a1) (h0 : 0 ≤ a0 ∧ a0 < N 3) (h1 : 1 ≤ a1 ∧ a1 ≤ 100000) (hm : 0 ≤ m 41 0 6 ∧ m 41 0 6 ≤ 8) (hch : inI (N (30 + 7 * a0 + 1))) (hpn : PN (upN N 11 (N 11 + (min a1 (N (30 + 7 * a0 + 1))))) a0) (hqn : QN (upN N 11 (N 11 + (min a1 (N (30 + 7 * a0 + 1))))) a0) (hu : 0 ≤ (min a1 (N (30 + 7 * a0 + 1))) ∧ (min a1 (N (30 + 7 * a0 + 1))) ≤ (upN N 11 (N 11 + (min a1 (N (30 + 7 * a0 + 1))))) (30 + 7 * a0 + 1) ∧ (min a1 (N (30 + 7 * a0 + 1))) ≤ 1000000) : Ct G MX8_drain (rmD 9) [rf G 41 0, .int (iI a0), .int (iI a1)] (hp (sr m N)) (.inl (some (.int (iI ((min a1 (N (30 + 7 * a0 + 1)))))))) (hp (sr (KM (thr m 0) N) (giveN (upN N 11 (N 11 + (min a1 (N (30 + 7 * a0 + 1))))) a0 (min a1 (N (30 + 7 * a0 + 1)))))) := by
  refine x_entry (by decide +kernel) mwX8_drain rfl (Nat.le_of_ble_eq_true rfl) ?_
  show X G MX8_drain (rmD 9) 0 [(0, rf G 41 0), (1, .int (iI a0)), (2, .int (iI a1))] [] (hp (sr m N)) 0 0 (.inl (some (.int (iI ((min a1 (N (30 + 7 * a0 + 1)))))))) (hp (sr (KM (thr m 0) N) (giveN (upN N 11 (N 11 + (min a1 (N (30 + 7 * a0 + 1))))) a0 (min a1 (N (30 + 7 * a0 + 1))))))
  have n8 := hF.1
  have n16 := hF.2.1
  have nc8 := hF.2.2.1
  have nl16 := hF.2.2.2.1.1
  refine x_aload_n (pc := 0) dX8_drain_0 0 rfl ?_
  refine x_aload_n (pc := 1) dX8_drain_1 0 rfl ?_
  refine x_iload_n (pc := 2) dX8_drain_2 1 rfl ?_
  refine x_callV (pc := 3) _ dX8_drain_3 (mq_isPack a0 ha0 (by omega)) lkX8_234 rfl rfl rfl rfl (mem_dom0 (by decide) (by decide)) (by decide) (Nat.le_of_ble_eq_true rfl) rfl ?_
  refine x_iconst (pc := 6) dX8_drain_6 ?_
  refine x_callV (pc := 7) _ dX8_drain_7 (mq_isThrown (b := 0 ≤ a0 ∧ a0 < N 3) 1) lkX8_227 rfl rfl rfl rfl (mem_dom0 (by decide) (by decide)) (by decide) (Nat.le_of_ble_eq_true rfl) rfl ?_
  refine x_nil (m' := sr (thr m 0) N) (by rw [if_pos h0]) ?_
  refine x_ifb_ne (pc := 10) 25 dX8_drain_10 (by decide) (fun c_10 => absurd c_10 (fun z => z h0)) (fun c_10 => ?_)
  refine x_aload_n (pc := 13) dX8_drain_13 0 rfl ?_
  refine x_iload_n (pc := 14) dX8_drain_14 2 rfl ?_
  refine x_callS (pc := 15) _ dX8_drain_15 (mq_isAmount a1 ha1) lkX8_281 rfl (by decide) (Nat.le_of_ble_eq_true rfl) rfl ?_
  refine x_iconst (pc := 18) dX8_drain_18 ?_
  refine x_callV (pc := 19) _ dX8_drain_19 (mq_isThrown (b := 1 ≤ a1 ∧ a1 ≤ 100000) 2) lkX8_227 rfl rfl rfl rfl (mem_dom0 (by decide) (by decide)) (by decide) (Nat.le_of_ble_eq_true rfl) rfl ?_
  refine x_nil (m' := sr (thr m 0) N) (by rw [if_pos h1, thr_thr]) ?_
  refine x_ifb_eq (pc := 22) 27 dX8_drain_22 (by decide) (fun c_22 => ?_) (fun c_22 => absurd c_22 (fun z => z h1))
  refine x_aload_n (pc := 27) dX8_drain_27 0 rfl ?_
  refine x_callV (pc := 28) _ dX8_drain_28 (mq_keepsN (m := thr m 0) (by rw [thr_6]; exact hm)) lkX8_341 rfl rfl rfl rfl (mem_dom0 (by decide) (by decide)) (by decide) (Nat.le_of_ble_eq_true rfl) rfl ?_
  refine x_nil (m' := sr (KM (thr m 0) N) N) rfl ?_
  refine x_iload_n (pc := 31) dX8_drain_31 2 rfl ?_
  refine x_aload_n (pc := 32) dX8_drain_32 0 rfl ?_
  refine x_iload_n (pc := 33) dX8_drain_33 1 rfl ?_
  refine x_iconst (pc := 34) dX8_drain_34 ?_
  refine x_callV (pc := 35) _ dX8_drain_35 (mq_ofPack a0 1 (by omega)) lkX8_189 rfl rfl rfl rfl (mem_dom0 (by decide) (by decide)) (by decide) (Nat.le_of_ble_eq_true rfl) rfl ?_
  refine x_min (pc := 38) dX8_drain_38 lmX8_106 ha1 hch (by decide) (Nat.le_of_ble_eq_true rfl) (by decide) (by decide) ?_
  refine x_istore_n (pc := 41) (lv' := [(3, _), (0, _), (1, _), (2, _)]) dX8_drain_41 rfl (by decide) rfl ?_
  refine x_aload_n (pc := 42) dX8_drain_42 1 rfl ?_
  refine y_getR (pc := 43) dX8_drain_43 flX8_9 rfl rfl rfl (by decide) ?_
  refine x_bipush (pc := 46) (z := 11) dX8_drain_46 (by decide) ?_
  refine x_dup2 (pc := 48) dX8_drain_48 rfl rfl ?_
  refine y_nald (pc := 49) dX8_drain_49 (by omega) ?_
  refine x_iload_n (pc := 50) dX8_drain_50 0 rfl ?_
  refine x_iadd (pc := 51) dX8_drain_51 ?_
  refine y_nast (pc := 52) dX8_drain_52 (by omega) ?_
  refine x_aload_n (pc := 53) dX8_drain_53 1 rfl ?_
  refine x_iload_n (pc := 54) dX8_drain_54 2 rfl ?_
  refine x_iload_n (pc := 55) dX8_drain_55 0 rfl ?_
  refine x_callV (pc := 56) _ dX8_drain_56 (mq_gives a0 (min a1 (N (30 + 7 * a0 + 1))) hpn hqn hu) lkX8_305 rfl rfl rfl rfl (mem_dom0 (by decide) (by decide)) (by decide) (Nat.le_of_ble_eq_true rfl) rfl ?_
  refine x_iload_n (pc := 59) dX8_drain_59 0 rfl ?_
  exact y_iret (pc := 60) dX8_drain_60 rfl rfl rfl

theorem Qx_drain_0 {G : GG} {m : Mem} {N : Int → Int} (hF : NF N) {a0 a1 : Int} (ha0 : inI a0) (ha1 : inI a1)  (h0 : ¬ (0 ≤ a0 ∧ a0 < N 3)) : Ct G MX8_drain (rmD 9) [rf G 41 0, .int (iI a0), .int (iI a1)] (hp (sr m N)) (.inl (some (.int (iI (0))))) (hp (sr (thr m 1) N)) := by
  refine x_entry (by decide +kernel) mwX8_drain rfl (Nat.le_of_ble_eq_true rfl) ?_
  show X G MX8_drain (rmD 9) 0 [(0, rf G 41 0), (1, .int (iI a0)), (2, .int (iI a1))] [] (hp (sr m N)) 0 0 (.inl (some (.int (iI (0))))) (hp (sr (thr m 1) N))
  have n8 := hF.1
  have n16 := hF.2.1
  have nc8 := hF.2.2.1
  have nl16 := hF.2.2.2.1.1
  refine x_aload_n (pc := 0) dX8_drain_0 0 rfl ?_
  refine x_aload_n (pc := 1) dX8_drain_1 0 rfl ?_
  refine x_iload_n (pc := 2) dX8_drain_2 1 rfl ?_
  refine x_callV (pc := 3) _ dX8_drain_3 (mq_isPack a0 ha0 (by omega)) lkX8_234 rfl rfl rfl rfl (mem_dom0 (by decide) (by decide)) (by decide) (Nat.le_of_ble_eq_true rfl) rfl ?_
  refine x_iconst (pc := 6) dX8_drain_6 ?_
  refine x_callV (pc := 7) _ dX8_drain_7 (mq_isThrown (b := 0 ≤ a0 ∧ a0 < N 3) 1) lkX8_227 rfl rfl rfl rfl (mem_dom0 (by decide) (by decide)) (by decide) (Nat.le_of_ble_eq_true rfl) rfl ?_
  refine x_nil (m' := sr (thr m 1) N) (by rw [if_neg h0]) ?_
  refine x_ifb_ne (pc := 10) 25 dX8_drain_10 (by decide) (fun c_10 => ?_) (fun c_10 => absurd c_10 (fun z => z h0))
  refine x_iconst (pc := 25) dX8_drain_25 ?_
  exact y_iret (pc := 26) dX8_drain_26 rfl rfl rfl

theorem Qx_drain_1 {G : GG} {m : Mem} {N : Int → Int} (hF : NF N) {a0 a1 : Int} (ha0 : inI a0) (ha1 : inI a1) (h0 : 0 ≤ a0 ∧ a0 < N 3) (h1 : ¬ (1 ≤ a1 ∧ a1 ≤ 100000)) : Ct G MX8_drain (rmD 9) [rf G 41 0, .int (iI a0), .int (iI a1)] (hp (sr m N)) (.inl (some (.int (iI (0))))) (hp (sr (thr m 2) N)) := by
  refine x_entry (by decide +kernel) mwX8_drain rfl (Nat.le_of_ble_eq_true rfl) ?_
  show X G MX8_drain (rmD 9) 0 [(0, rf G 41 0), (1, .int (iI a0)), (2, .int (iI a1))] [] (hp (sr m N)) 0 0 (.inl (some (.int (iI (0))))) (hp (sr (thr m 2) N))
  have n8 := hF.1
  have n16 := hF.2.1
  have nc8 := hF.2.2.1
  have nl16 := hF.2.2.2.1.1
  refine x_aload_n (pc := 0) dX8_drain_0 0 rfl ?_
  refine x_aload_n (pc := 1) dX8_drain_1 0 rfl ?_
  refine x_iload_n (pc := 2) dX8_drain_2 1 rfl ?_
  refine x_callV (pc := 3) _ dX8_drain_3 (mq_isPack a0 ha0 (by omega)) lkX8_234 rfl rfl rfl rfl (mem_dom0 (by decide) (by decide)) (by decide) (Nat.le_of_ble_eq_true rfl) rfl ?_
  refine x_iconst (pc := 6) dX8_drain_6 ?_
  refine x_callV (pc := 7) _ dX8_drain_7 (mq_isThrown (b := 0 ≤ a0 ∧ a0 < N 3) 1) lkX8_227 rfl rfl rfl rfl (mem_dom0 (by decide) (by decide)) (by decide) (Nat.le_of_ble_eq_true rfl) rfl ?_
  refine x_nil (m' := sr (thr m 0) N) (by rw [if_pos h0]) ?_
  refine x_ifb_ne (pc := 10) 25 dX8_drain_10 (by decide) (fun c_10 => absurd c_10 (fun z => z h0)) (fun c_10 => ?_)
  refine x_aload_n (pc := 13) dX8_drain_13 0 rfl ?_
  refine x_iload_n (pc := 14) dX8_drain_14 2 rfl ?_
  refine x_callS (pc := 15) _ dX8_drain_15 (mq_isAmount a1 ha1) lkX8_281 rfl (by decide) (Nat.le_of_ble_eq_true rfl) rfl ?_
  refine x_iconst (pc := 18) dX8_drain_18 ?_
  refine x_callV (pc := 19) _ dX8_drain_19 (mq_isThrown (b := 1 ≤ a1 ∧ a1 ≤ 100000) 2) lkX8_227 rfl rfl rfl rfl (mem_dom0 (by decide) (by decide)) (by decide) (Nat.le_of_ble_eq_true rfl) rfl ?_
  refine x_nil (m' := sr (thr m 2) N) (by rw [if_neg h1, thr_thr]) ?_
  refine x_ifb_eq (pc := 22) 27 dX8_drain_22 (by decide) (fun c_22 => absurd c_22 (fun z => z h1)) (fun c_22 => ?_)
  refine x_iconst (pc := 25) dX8_drain_25 ?_
  exact y_iret (pc := 26) dX8_drain_26 rfl rfl rfl

theorem Q_setCable0 {G : GG} {m : Mem} {N : Int → Int} (hF : NF N) {a0 a1 a2 a3 : Int} (ha0 : inI a0) (ha1 : inI a1) (ha2 : inI a2) (ha3 : inI a3) (h0 : (0 ≤ a0 ∧ a0 < N 3) ∧ (0 ≤ a1 ∧ a1 < N 3)) (h1 : (0 ≤ a2 ∧ a2 ≤ 900) ∧ (1 ≤ a3 ∧ a3 ≤ 10000)) (hz : (betN N a0 a1) = -1) : Ct G MX8_setCable (rmD 9) [rf G 41 0, .int (iI a0), .int (iI a1), .int (iI a2), .int (iI a3)] (hp (sr m N)) (.inl (some (.int (iI (-1))))) (hp (sr (thr m 0) N)) := by
  refine x_entry (by decide +kernel) mwX8_setCable rfl (Nat.le_of_ble_eq_true rfl) ?_
  show X G MX8_setCable (rmD 9) 0 [(0, rf G 41 0), (1, .int (iI a0)), (2, .int (iI a1)), (3, .int (iI a2)), (4, .int (iI a3))] [] (hp (sr m N)) 0 0 (.inl (some (.int (iI (-1))))) (hp (sr (thr m 0) N))
  have n8 := hF.1
  have n16 := hF.2.1
  have nc8 := hF.2.2.1
  have nl16 := hF.2.2.2.1.1
  refine x_aload_n (pc := 0) dX8_setCable_0 0 rfl ?_
  refine x_aload_n (pc := 1) dX8_setCable_1 0 rfl ?_
  refine x_iload_n (pc := 2) dX8_setCable_2 1 rfl ?_
  refine x_callV (pc := 3) _ dX8_setCable_3 (mq_isPack a0 ha0 (by omega)) lkX8_234 rfl rfl rfl rfl (mem_dom0 (by decide) (by decide)) (by decide) (Nat.le_of_ble_eq_true rfl) rfl ?_
  refine x_ifb_eq (pc := 6) 21 dX8_setCable_6 (by decide) (fun c_6 => absurd c_6 (fun z => z h0.1)) (fun c_6 => ?_)
  refine x_aload_n (pc := 9) dX8_setCable_9 0 rfl ?_
  refine x_iload_n (pc := 10) dX8_setCable_10 2 rfl ?_
  refine x_callV (pc := 11) _ dX8_setCable_11 (mq_isPack a1 ha1 (by omega)) lkX8_234 rfl rfl rfl rfl (mem_dom0 (by decide) (by decide)) (by decide) (Nat.le_of_ble_eq_true rfl) rfl ?_
  refine x_ifb_eq (pc := 14) 21 dX8_setCable_14 (by decide) (fun c_14 => absurd c_14 (fun z => z h0.2)) (fun c_14 => ?_)
  refine x_iconst (pc := 17) dX8_setCable_17 ?_
  refine x_goto (pc := 18) 22 dX8_setCable_18 (by decide) ?_
  refine x_iconst (pc := 22) dX8_setCable_22 ?_
  refine x_callV (pc := 23) _ dX8_setCable_23 (mq_isThrown (b := True) 1) lkX8_227 rfl rfl rfl rfl (mem_dom0 (by decide) (by decide)) (by decide) (Nat.le_of_ble_eq_true rfl) rfl ?_
  refine x_nil (m' := sr (thr m 0) N) (by rw [if_pos trivial]) ?_
  refine x_ifb_ne (pc := 26) 67 dX8_setCable_26 (by decide) (fun c_26 => absurd c_26 (fun z => z trivial)) (fun c_26 => ?_)
  refine x_aload_n (pc := 29) dX8_setCable_29 0 rfl ?_
  refine x_iload_n (pc := 30) dX8_setCable_30 3 rfl ?_
  refine x_i2l (pc := 31) dX8_setCable_31 ha2 ?_
  refine x_lconst (pc := 32) (z := 0) dX8_setCable_32 (by decide) ?_
  refine x_ldc2 (pc := 33) (z := 900) dX8_setCable_33 kcX8_354 (by decide) ?_
  refine x_callS (pc := 36) _ dX8_setCable_36 (mq_in a2 0 900 (by unfold inL; unfold inI at ha2; omega) (by unfold inL; omega) (by unfold inL; omega)) lkX8_44 rfl (by decide) (Nat.le_of_ble_eq_true rfl) rfl ?_
  refine x_ifb_eq (pc := 39) 59 dX8_setCable_39 (by decide) (fun c_39 => absurd c_39 (fun z => z h1.1)) (fun c_39 => ?_)
  refine x_iload (pc := 42) dX8_setCable_42 4 rfl ?_
  refine x_i2l (pc := 44) dX8_setCable_44 ha3 ?_
  refine x_lconst (pc := 45) (z := 1) dX8_setCable_45 (by decide) ?_
  refine x_ldc2 (pc := 46) (z := 10000) dX8_setCable_46 kcX8_356 (by decide) ?_
  refine x_callS (pc := 49) _ dX8_setCable_49 (mq_in a3 1 10000 (by unfold inL; unfold inI at ha3; omega) (by unfold inL; omega) (by unfold inL; omega)) lkX8_44 rfl (by decide) (Nat.le_of_ble_eq_true rfl) rfl ?_
  refine x_ifb_eq (pc := 52) 59 dX8_setCable_52 (by decide) (fun c_52 => absurd c_52 (fun z => z h1.2)) (fun c_52 => ?_)
  refine x_iconst (pc := 55) dX8_setCable_55 ?_
  refine x_goto (pc := 56) 60 dX8_setCable_56 (by decide) ?_
  refine x_iconst (pc := 60) dX8_setCable_60 ?_
  refine x_callV (pc := 61) _ dX8_setCable_61 (mq_isThrown (b := True) 2) lkX8_227 rfl rfl rfl rfl (mem_dom0 (by decide) (by decide)) (by decide) (Nat.le_of_ble_eq_true rfl) rfl ?_
  refine x_nil (m' := sr (thr m 0) N) (by rw [if_pos trivial, thr_thr]) ?_
  refine x_ifb_eq (pc := 64) 69 dX8_setCable_64 (by decide) (fun c_64 => ?_) (fun c_64 => absurd c_64 (fun z => z trivial))
  refine x_aload_n (pc := 69) dX8_setCable_69 0 rfl ?_
  refine y_getR (pc := 70) dX8_setCable_70 flX8_9 rfl rfl rfl (by decide) ?_
  refine x_iload_n (pc := 73) dX8_setCable_73 1 rfl ?_
  refine x_iload_n (pc := 74) dX8_setCable_74 2 rfl ?_
  refine x_callS (pc := 75) _ dX8_setCable_75 (mq_between a0 a1 ha0 ha1 hF.2.2.2.2.1) lkX8_134 rfl (by decide) (Nat.le_of_ble_eq_true rfl) rfl ?_
  refine x_istore (pc := 78) (lv' := [(5, _), (0, _), (1, _), (2, _), (3, _), (4, _)]) dX8_setCable_78 (by decide) rfl ?_
  refine x_iload (pc := 80) dX8_setCable_80 0 rfl ?_
  refine x_iconst (pc := 82) dX8_setCable_82 ?_
  refine x_icmp_ne (pc := 83) 88 dX8_setCable_83 (by decide) (by unfold inI; omega) (by unfold inI; omega) (fun c_83 => absurd c_83 (fun z => z hz)) (fun c_83 => ?_)
  refine x_iconst (pc := 86) dX8_setCable_86 ?_
  exact y_iret (pc := 87) dX8_setCable_87 rfl rfl rfl

theorem Qx_setCable_0 {G : GG} {m : Mem} {N : Int → Int} (hF : NF N) {a0 a1 a2 a3 : Int} (ha0 : inI a0) (ha1 : inI a1) (ha2 : inI a2) (ha3 : inI a3)  (h0 : ¬ ((0 ≤ a0 ∧ a0 < N 3) ∧ (0 ≤ a1 ∧ a1 < N 3))) : Ct G MX8_setCable (rmD 9) [rf G 41 0, .int (iI a0), .int (iI a1), .int (iI a2), .int (iI a3)] (hp (sr m N)) (.inl (some (.int (iI (0))))) (hp (sr (thr m 1) N)) := by
  refine x_entry (by decide +kernel) mwX8_setCable rfl (Nat.le_of_ble_eq_true rfl) ?_
  show X G MX8_setCable (rmD 9) 0 [(0, rf G 41 0), (1, .int (iI a0)), (2, .int (iI a1)), (3, .int (iI a2)), (4, .int (iI a3))] [] (hp (sr m N)) 0 0 (.inl (some (.int (iI (0))))) (hp (sr (thr m 1) N))
  have n8 := hF.1
  have n16 := hF.2.1
  have nc8 := hF.2.2.1
  have nl16 := hF.2.2.2.1.1
  refine x_aload_n (pc := 0) dX8_setCable_0 0 rfl ?_
  refine x_aload_n (pc := 1) dX8_setCable_1 0 rfl ?_
  refine x_iload_n (pc := 2) dX8_setCable_2 1 rfl ?_
  refine x_callV (pc := 3) _ dX8_setCable_3 (mq_isPack a0 ha0 (by omega)) lkX8_234 rfl rfl rfl rfl (mem_dom0 (by decide) (by decide)) (by decide) (Nat.le_of_ble_eq_true rfl) rfl ?_
  refine x_ifb_eq (pc := 6) 21 dX8_setCable_6 (by decide) (fun c_6 => ?_) (fun c_6 => ?_)
  · refine x_iconst (pc := 21) dX8_setCable_21 ?_
    refine x_iconst (pc := 22) dX8_setCable_22 ?_
    refine x_callV (pc := 23) _ dX8_setCable_23 (mq_isThrown (b := False) 1) lkX8_227 rfl rfl rfl rfl (mem_dom0 (by decide) (by decide)) (by decide) (Nat.le_of_ble_eq_true rfl) rfl ?_
    refine x_nil (m' := sr (thr m 1) N) (by rw [if_neg id]) ?_
    refine x_ifb_ne (pc := 26) 67 dX8_setCable_26 (by decide) (fun c_26 => ?_) (fun c_26 => absurd c_26 (fun z => z id))
    refine x_iconst (pc := 67) dX8_setCable_67 ?_
    exact y_iret (pc := 68) dX8_setCable_68 rfl rfl rfl
  · refine x_aload_n (pc := 9) dX8_setCable_9 0 rfl ?_
    refine x_iload_n (pc := 10) dX8_setCable_10 2 rfl ?_
    refine x_callV (pc := 11) _ dX8_setCable_11 (mq_isPack a1 ha1 (by omega)) lkX8_234 rfl rfl rfl rfl (mem_dom0 (by decide) (by decide)) (by decide) (Nat.le_of_ble_eq_true rfl) rfl ?_
    refine x_ifb_eq (pc := 14) 21 dX8_setCable_14 (by decide) (fun c_14 => ?_) (fun c_14 => absurd c_14 (fun z => h0 ⟨c_6, z⟩))
    refine x_iconst (pc := 21) dX8_setCable_21 ?_
    refine x_iconst (pc := 22) dX8_setCable_22 ?_
    refine x_callV (pc := 23) _ dX8_setCable_23 (mq_isThrown (b := False) 1) lkX8_227 rfl rfl rfl rfl (mem_dom0 (by decide) (by decide)) (by decide) (Nat.le_of_ble_eq_true rfl) rfl ?_
    refine x_nil (m' := sr (thr m 1) N) (by rw [if_neg id]) ?_
    refine x_ifb_ne (pc := 26) 67 dX8_setCable_26 (by decide) (fun c_26 => ?_) (fun c_26 => absurd c_26 (fun z => z id))
    refine x_iconst (pc := 67) dX8_setCable_67 ?_
    exact y_iret (pc := 68) dX8_setCable_68 rfl rfl rfl

theorem Qx_setCable_1 {G : GG} {m : Mem} {N : Int → Int} (hF : NF N) {a0 a1 a2 a3 : Int} (ha0 : inI a0) (ha1 : inI a1) (ha2 : inI a2) (ha3 : inI a3) (h0 : (0 ≤ a0 ∧ a0 < N 3) ∧ (0 ≤ a1 ∧ a1 < N 3)) (h1 : ¬ ((0 ≤ a2 ∧ a2 ≤ 900) ∧ (1 ≤ a3 ∧ a3 ≤ 10000))) : Ct G MX8_setCable (rmD 9) [rf G 41 0, .int (iI a0), .int (iI a1), .int (iI a2), .int (iI a3)] (hp (sr m N)) (.inl (some (.int (iI (0))))) (hp (sr (thr m 2) N)) := by
  refine x_entry (by decide +kernel) mwX8_setCable rfl (Nat.le_of_ble_eq_true rfl) ?_
  show X G MX8_setCable (rmD 9) 0 [(0, rf G 41 0), (1, .int (iI a0)), (2, .int (iI a1)), (3, .int (iI a2)), (4, .int (iI a3))] [] (hp (sr m N)) 0 0 (.inl (some (.int (iI (0))))) (hp (sr (thr m 2) N))
  have n8 := hF.1
  have n16 := hF.2.1
  have nc8 := hF.2.2.1
  have nl16 := hF.2.2.2.1.1
  refine x_aload_n (pc := 0) dX8_setCable_0 0 rfl ?_
  refine x_aload_n (pc := 1) dX8_setCable_1 0 rfl ?_
  refine x_iload_n (pc := 2) dX8_setCable_2 1 rfl ?_
  refine x_callV (pc := 3) _ dX8_setCable_3 (mq_isPack a0 ha0 (by omega)) lkX8_234 rfl rfl rfl rfl (mem_dom0 (by decide) (by decide)) (by decide) (Nat.le_of_ble_eq_true rfl) rfl ?_
  refine x_ifb_eq (pc := 6) 21 dX8_setCable_6 (by decide) (fun c_6 => absurd c_6 (fun z => z h0.1)) (fun c_6 => ?_)
  refine x_aload_n (pc := 9) dX8_setCable_9 0 rfl ?_
  refine x_iload_n (pc := 10) dX8_setCable_10 2 rfl ?_
  refine x_callV (pc := 11) _ dX8_setCable_11 (mq_isPack a1 ha1 (by omega)) lkX8_234 rfl rfl rfl rfl (mem_dom0 (by decide) (by decide)) (by decide) (Nat.le_of_ble_eq_true rfl) rfl ?_
  refine x_ifb_eq (pc := 14) 21 dX8_setCable_14 (by decide) (fun c_14 => absurd c_14 (fun z => z h0.2)) (fun c_14 => ?_)
  refine x_iconst (pc := 17) dX8_setCable_17 ?_
  refine x_goto (pc := 18) 22 dX8_setCable_18 (by decide) ?_
  refine x_iconst (pc := 22) dX8_setCable_22 ?_
  refine x_callV (pc := 23) _ dX8_setCable_23 (mq_isThrown (b := True) 1) lkX8_227 rfl rfl rfl rfl (mem_dom0 (by decide) (by decide)) (by decide) (Nat.le_of_ble_eq_true rfl) rfl ?_
  refine x_nil (m' := sr (thr m 0) N) (by rw [if_pos trivial]) ?_
  refine x_ifb_ne (pc := 26) 67 dX8_setCable_26 (by decide) (fun c_26 => absurd c_26 (fun z => z trivial)) (fun c_26 => ?_)
  refine x_aload_n (pc := 29) dX8_setCable_29 0 rfl ?_
  refine x_iload_n (pc := 30) dX8_setCable_30 3 rfl ?_
  refine x_i2l (pc := 31) dX8_setCable_31 ha2 ?_
  refine x_lconst (pc := 32) (z := 0) dX8_setCable_32 (by decide) ?_
  refine x_ldc2 (pc := 33) (z := 900) dX8_setCable_33 kcX8_354 (by decide) ?_
  refine x_callS (pc := 36) _ dX8_setCable_36 (mq_in a2 0 900 (by unfold inL; unfold inI at ha2; omega) (by unfold inL; omega) (by unfold inL; omega)) lkX8_44 rfl (by decide) (Nat.le_of_ble_eq_true rfl) rfl ?_
  refine x_ifb_eq (pc := 39) 59 dX8_setCable_39 (by decide) (fun c_39 => ?_) (fun c_39 => ?_)
  · refine x_iconst (pc := 59) dX8_setCable_59 ?_
    refine x_iconst (pc := 60) dX8_setCable_60 ?_
    refine x_callV (pc := 61) _ dX8_setCable_61 (mq_isThrown (b := False) 2) lkX8_227 rfl rfl rfl rfl (mem_dom0 (by decide) (by decide)) (by decide) (Nat.le_of_ble_eq_true rfl) rfl ?_
    refine x_nil (m' := sr (thr m 2) N) (by rw [if_neg id, thr_thr]) ?_
    refine x_ifb_eq (pc := 64) 69 dX8_setCable_64 (by decide) (fun c_64 => absurd c_64 (fun z => z id)) (fun c_64 => ?_)
    refine x_iconst (pc := 67) dX8_setCable_67 ?_
    exact y_iret (pc := 68) dX8_setCable_68 rfl rfl rfl
  · refine x_iload (pc := 42) dX8_setCable_42 4 rfl ?_
    refine x_i2l (pc := 44) dX8_setCable_44 ha3 ?_
    refine x_lconst (pc := 45) (z := 1) dX8_setCable_45 (by decide) ?_
    refine x_ldc2 (pc := 46) (z := 10000) dX8_setCable_46 kcX8_356 (by decide) ?_
    refine x_callS (pc := 49) _ dX8_setCable_49 (mq_in a3 1 10000 (by unfold inL; unfold inI at ha3; omega) (by unfold inL; omega) (by unfold inL; omega)) lkX8_44 rfl (by decide) (Nat.le_of_ble_eq_true rfl) rfl ?_
    refine x_ifb_eq (pc := 52) 59 dX8_setCable_52 (by decide) (fun c_52 => ?_) (fun c_52 => absurd c_52 (fun z => h1 ⟨c_39, z⟩))
    refine x_iconst (pc := 59) dX8_setCable_59 ?_
    refine x_iconst (pc := 60) dX8_setCable_60 ?_
    refine x_callV (pc := 61) _ dX8_setCable_61 (mq_isThrown (b := False) 2) lkX8_227 rfl rfl rfl rfl (mem_dom0 (by decide) (by decide)) (by decide) (Nat.le_of_ble_eq_true rfl) rfl ?_
    refine x_nil (m' := sr (thr m 2) N) (by rw [if_neg id, thr_thr]) ?_
    refine x_ifb_eq (pc := 64) 69 dX8_setCable_64 (by decide) (fun c_64 => absurd c_64 (fun z => z id)) (fun c_64 => ?_)
    refine x_iconst (pc := 67) dX8_setCable_67 ?_
    exact y_iret (pc := 68) dX8_setCable_68 rfl rfl rfl

theorem Q_setCable1 {G : GG} {m : Mem} {N : Int → Int} (hF : NF N) {a0 a1 a2 a3 : Int} (ha0 : inI a0) (ha1 : inI a1) (ha2 : inI a2) (ha3 : inI a3) (h0 : (0 ≤ a0 ∧ a0 < N 3) ∧ (0 ≤ a1 ∧ a1 < N 3)) (h1 : (0 ≤ a2 ∧ a2 ≤ 900) ∧ (1 ≤ a3 ∧ a3 ≤ 10000)) (hm : 0 ≤ m 41 0 6 ∧ m 41 0 6 ≤ 8) (hb : 0 ≤ (betN N a0 a1) ∧ (betN N a0 a1) < 12) : Ct G MX8_setCable (rmD 9) [rf G 41 0, .int (iI a0), .int (iI a1), .int (iI a2), .int (iI a3)] (hp (sr m N)) (.inl (some (.int (iI (N (86 + 6 * (betN N a0 a1) + 2)))))) (hp (sr (KM (thr m 0) N) (upN (upN N (86 + 6 * (betN N a0 a1) + 2) a2) (86 + 6 * (betN N a0 a1) + 3) a3))) := by
  refine x_entry (by decide +kernel) mwX8_setCable rfl (Nat.le_of_ble_eq_true rfl) ?_
  show X G MX8_setCable (rmD 9) 0 [(0, rf G 41 0), (1, .int (iI a0)), (2, .int (iI a1)), (3, .int (iI a2)), (4, .int (iI a3))] [] (hp (sr m N)) 0 0 (.inl (some (.int (iI (N (86 + 6 * (betN N a0 a1) + 2)))))) (hp (sr (KM (thr m 0) N) (upN (upN N (86 + 6 * (betN N a0 a1) + 2) a2) (86 + 6 * (betN N a0 a1) + 3) a3)))
  have n8 := hF.1
  have n16 := hF.2.1
  have nc8 := hF.2.2.1
  have nl16 := hF.2.2.2.1.1
  refine x_aload_n (pc := 0) dX8_setCable_0 0 rfl ?_
  refine x_aload_n (pc := 1) dX8_setCable_1 0 rfl ?_
  refine x_iload_n (pc := 2) dX8_setCable_2 1 rfl ?_
  refine x_callV (pc := 3) _ dX8_setCable_3 (mq_isPack a0 ha0 (by omega)) lkX8_234 rfl rfl rfl rfl (mem_dom0 (by decide) (by decide)) (by decide) (Nat.le_of_ble_eq_true rfl) rfl ?_
  refine x_ifb_eq (pc := 6) 21 dX8_setCable_6 (by decide) (fun c_6 => absurd c_6 (fun z => z h0.1)) (fun c_6 => ?_)
  refine x_aload_n (pc := 9) dX8_setCable_9 0 rfl ?_
  refine x_iload_n (pc := 10) dX8_setCable_10 2 rfl ?_
  refine x_callV (pc := 11) _ dX8_setCable_11 (mq_isPack a1 ha1 (by omega)) lkX8_234 rfl rfl rfl rfl (mem_dom0 (by decide) (by decide)) (by decide) (Nat.le_of_ble_eq_true rfl) rfl ?_
  refine x_ifb_eq (pc := 14) 21 dX8_setCable_14 (by decide) (fun c_14 => absurd c_14 (fun z => z h0.2)) (fun c_14 => ?_)
  refine x_iconst (pc := 17) dX8_setCable_17 ?_
  refine x_goto (pc := 18) 22 dX8_setCable_18 (by decide) ?_
  refine x_iconst (pc := 22) dX8_setCable_22 ?_
  refine x_callV (pc := 23) _ dX8_setCable_23 (mq_isThrown (b := True) 1) lkX8_227 rfl rfl rfl rfl (mem_dom0 (by decide) (by decide)) (by decide) (Nat.le_of_ble_eq_true rfl) rfl ?_
  refine x_nil (m' := sr (thr m 0) N) (by rw [if_pos trivial]) ?_
  refine x_ifb_ne (pc := 26) 67 dX8_setCable_26 (by decide) (fun c_26 => absurd c_26 (fun z => z trivial)) (fun c_26 => ?_)
  refine x_aload_n (pc := 29) dX8_setCable_29 0 rfl ?_
  refine x_iload_n (pc := 30) dX8_setCable_30 3 rfl ?_
  refine x_i2l (pc := 31) dX8_setCable_31 ha2 ?_
  refine x_lconst (pc := 32) (z := 0) dX8_setCable_32 (by decide) ?_
  refine x_ldc2 (pc := 33) (z := 900) dX8_setCable_33 kcX8_354 (by decide) ?_
  refine x_callS (pc := 36) _ dX8_setCable_36 (mq_in a2 0 900 (by unfold inL; unfold inI at ha2; omega) (by unfold inL; omega) (by unfold inL; omega)) lkX8_44 rfl (by decide) (Nat.le_of_ble_eq_true rfl) rfl ?_
  refine x_ifb_eq (pc := 39) 59 dX8_setCable_39 (by decide) (fun c_39 => absurd c_39 (fun z => z h1.1)) (fun c_39 => ?_)
  refine x_iload (pc := 42) dX8_setCable_42 4 rfl ?_
  refine x_i2l (pc := 44) dX8_setCable_44 ha3 ?_
  refine x_lconst (pc := 45) (z := 1) dX8_setCable_45 (by decide) ?_
  refine x_ldc2 (pc := 46) (z := 10000) dX8_setCable_46 kcX8_356 (by decide) ?_
  refine x_callS (pc := 49) _ dX8_setCable_49 (mq_in a3 1 10000 (by unfold inL; unfold inI at ha3; omega) (by unfold inL; omega) (by unfold inL; omega)) lkX8_44 rfl (by decide) (Nat.le_of_ble_eq_true rfl) rfl ?_
  refine x_ifb_eq (pc := 52) 59 dX8_setCable_52 (by decide) (fun c_52 => absurd c_52 (fun z => z h1.2)) (fun c_52 => ?_)
  refine x_iconst (pc := 55) dX8_setCable_55 ?_
  refine x_goto (pc := 56) 60 dX8_setCable_56 (by decide) ?_
  refine x_iconst (pc := 60) dX8_setCable_60 ?_
  refine x_callV (pc := 61) _ dX8_setCable_61 (mq_isThrown (b := True) 2) lkX8_227 rfl rfl rfl rfl (mem_dom0 (by decide) (by decide)) (by decide) (Nat.le_of_ble_eq_true rfl) rfl ?_
  refine x_nil (m' := sr (thr m 0) N) (by rw [if_pos trivial, thr_thr]) ?_
  refine x_ifb_eq (pc := 64) 69 dX8_setCable_64 (by decide) (fun c_64 => ?_) (fun c_64 => absurd c_64 (fun z => z trivial))
  refine x_aload_n (pc := 69) dX8_setCable_69 0 rfl ?_
  refine y_getR (pc := 70) dX8_setCable_70 flX8_9 rfl rfl rfl (by decide) ?_
  refine x_iload_n (pc := 73) dX8_setCable_73 1 rfl ?_
  refine x_iload_n (pc := 74) dX8_setCable_74 2 rfl ?_
  refine x_callS (pc := 75) _ dX8_setCable_75 (mq_between a0 a1 ha0 ha1 hF.2.2.2.2.1) lkX8_134 rfl (by decide) (Nat.le_of_ble_eq_true rfl) rfl ?_
  refine x_istore (pc := 78) (lv' := [(5, _), (0, _), (1, _), (2, _), (3, _), (4, _)]) dX8_setCable_78 (by decide) rfl ?_
  refine x_iload (pc := 80) dX8_setCable_80 0 rfl ?_
  refine x_iconst (pc := 82) dX8_setCable_82 ?_
  refine x_icmp_ne (pc := 83) 88 dX8_setCable_83 (by decide) (by unfold inI; omega) (by unfold inI; omega) (fun c_83 => ?_) (fun c_83 => (by exfalso; omega))
  refine x_aload_n (pc := 88) dX8_setCable_88 1 rfl ?_
  refine x_bipush (pc := 89) (z := 86) dX8_setCable_89 (by decide) ?_
  refine x_bipush (pc := 91) (z := 6) dX8_setCable_91 (by decide) ?_
  refine x_iload (pc := 93) dX8_setCable_93 0 rfl ?_
  refine x_imul (pc := 95) dX8_setCable_95 ?_
  refine x_iadd (pc := 96) dX8_setCable_96 ?_
  refine x_iconst (pc := 97) dX8_setCable_97 ?_
  refine x_iadd (pc := 98) dX8_setCable_98 ?_
  refine x_iload_n (pc := 99) dX8_setCable_99 4 rfl ?_
  refine x_callV (pc := 100) _ dX8_setCable_100 (mq_puts (m := thr m 0) (by rw [thr_6]; exact hm) (86 + 6 * (betN N a0 a1) + 2) a2 (by omega)) lkX8_351 rfl rfl rfl rfl (mem_dom0 (by decide) (by decide)) (by decide) (Nat.le_of_ble_eq_true rfl) rfl ?_
  refine x_istore (pc := 103) (lv' := [(6, _), (5, _), (0, _), (1, _), (2, _), (3, _), (4, _)]) dX8_setCable_103 (by decide) rfl ?_
  refine x_aload_n (pc := 105) dX8_setCable_105 2 rfl ?_
  refine y_getR (pc := 106) dX8_setCable_106 flX8_9 rfl rfl rfl (by decide) ?_
  refine x_bipush (pc := 109) (z := 86) dX8_setCable_109 (by decide) ?_
  refine x_bipush (pc := 111) (z := 6) dX8_setCable_111 (by decide) ?_
  refine x_iload (pc := 113) dX8_setCable_113 1 rfl ?_
  refine x_imul (pc := 115) dX8_setCable_115 ?_
  refine x_iadd (pc := 116) dX8_setCable_116 ?_
  refine x_iconst (pc := 117) dX8_setCable_117 ?_
  refine x_iadd (pc := 118) dX8_setCable_118 ?_
  refine x_iload (pc := 119) dX8_setCable_119 6 rfl ?_
  refine y_nast (pc := 121) dX8_setCable_121 (by omega) ?_
  refine x_iload (pc := 122) dX8_setCable_122 0 rfl ?_
  exact y_iret (pc := 124) dX8_setCable_124 rfl rfl rfl

def atN4 (N : Int → Int) (a b c : Int) : Int → Int := upN (upN (upN (upN N (206 + 4 * N 7) a) (206 + 4 * N 7 + 1) b) (206 + 4 * N 7 + 2) c) (206 + 4 * N 7 + 3) 0
def atN (N : Int → Int) (a b c : Int) : Int → Int := upN (atN4 N a b c) 7 (atN4 N a b c 7 + 1)
theorem Q_addTrip0 {G : GG} {m : Mem} {N : Int → Int} (hF : NF N) {a0 a1 a2 : Int} (ha0 : inI a0) (ha1 : inI a1) (ha2 : inI a2) (h0 : 0 ≤ a0 ∧ a0 < N 3) (h1 : (0 ≤ a1 ∧ a1 ≤ 9999) ∧ (1 ≤ a2 ∧ a2 ≤ 100000)) (hz : N 7 = 16) : Ct G MX8_addTrip (rmD 9) [rf G 41 0, .int (iI a0), .int (iI a1), .int (iI a2)] (hp (sr m N)) (.inl (some (.int (iI (-2))))) (hp (sr (thr m 0) N)) := by
  refine x_entry (by decide +kernel) mwX8_addTrip rfl (Nat.le_of_ble_eq_true rfl) ?_
  show X G MX8_addTrip (rmD 9) 0 [(0, rf G 41 0), (1, .int (iI a0)), (2, .int (iI a1)), (3, .int (iI a2))] [] (hp (sr m N)) 0 0 (.inl (some (.int (iI (-2))))) (hp (sr (thr m 0) N))
  have n8 := hF.1
  have n16 := hF.2.1
  have nc8 := hF.2.2.1
  have nl16 := hF.2.2.2.1.1
  have h1a := h1.1
  have h1b := h1.2
  refine x_aload_n (pc := 0) dX8_addTrip_0 0 rfl ?_
  refine x_aload_n (pc := 1) dX8_addTrip_1 0 rfl ?_
  refine x_iload_n (pc := 2) dX8_addTrip_2 1 rfl ?_
  refine x_callV (pc := 3) _ dX8_addTrip_3 (mq_isPack a0 ha0 (by omega)) lkX8_234 rfl rfl rfl rfl (mem_dom0 (by decide) (by decide)) (by decide) (Nat.le_of_ble_eq_true rfl) rfl ?_
  refine x_iconst (pc := 6) dX8_addTrip_6 ?_
  refine x_callV (pc := 7) _ dX8_addTrip_7 (mq_isThrown (b := 0 ≤ a0 ∧ a0 < N 3) 1) lkX8_227 rfl rfl rfl rfl (mem_dom0 (by decide) (by decide)) (by decide) (Nat.le_of_ble_eq_true rfl) rfl ?_
  refine x_nil (m' := sr (thr m 0) N) (by rw [if_pos h0]) ?_
  refine x_ifb_ne (pc := 10) 45 dX8_addTrip_10 (by decide) (fun c_10 => absurd c_10 (fun z => z h0)) (fun c_10 => ?_)
  refine x_aload_n (pc := 13) dX8_addTrip_13 0 rfl ?_
  refine x_iload_n (pc := 14) dX8_addTrip_14 2 rfl ?_
  refine x_i2l (pc := 15) dX8_addTrip_15 ha1 ?_
  refine x_lconst (pc := 16) (z := 0) dX8_addTrip_16 (by decide) ?_
  refine x_ldc2 (pc := 17) (z := 9999) dX8_addTrip_17 kcX8_358 (by decide) ?_
  refine x_callS (pc := 20) _ dX8_addTrip_20 (mq_in a1 0 9999 (by unfold inL; unfold inI at ha1; omega) (by unfold inL; omega) (by unfold inL; omega)) lkX8_44 rfl (by decide) (Nat.le_of_ble_eq_true rfl) rfl ?_
  refine x_ifb_eq (pc := 23) 37 dX8_addTrip_23 (by decide) (fun c_23 => absurd c_23 (fun z => z h1.1)) (fun c_23 => ?_)
  refine x_iload_n (pc := 26) dX8_addTrip_26 3 rfl ?_
  refine x_callS (pc := 27) _ dX8_addTrip_27 (mq_isAmount a2 ha2) lkX8_281 rfl (by decide) (Nat.le_of_ble_eq_true rfl) rfl ?_
  refine x_ifb_eq (pc := 30) 37 dX8_addTrip_30 (by decide) (fun c_30 => absurd c_30 (fun z => z h1.2)) (fun c_30 => ?_)
  refine x_iconst (pc := 33) dX8_addTrip_33 ?_
  refine x_goto (pc := 34) 38 dX8_addTrip_34 (by decide) ?_
  refine x_iconst (pc := 38) dX8_addTrip_38 ?_
  refine x_callV (pc := 39) _ dX8_addTrip_39 (mq_isThrown (b := True) 2) lkX8_227 rfl rfl rfl rfl (mem_dom0 (by decide) (by decide)) (by decide) (Nat.le_of_ble_eq_true rfl) rfl ?_
  refine x_nil (m' := sr (thr m 0) N) (by rw [if_pos trivial, thr_thr]) ?_
  refine x_ifb_eq (pc := 42) 47 dX8_addTrip_42 (by decide) (fun c_42 => ?_) (fun c_42 => absurd c_42 (fun z => z trivial))
  refine x_aload_n (pc := 47) dX8_addTrip_47 0 rfl ?_
  refine y_getR (pc := 48) dX8_addTrip_48 flX8_9 rfl rfl rfl (by decide) ?_
  refine x_bipush (pc := 51) (z := 7) dX8_addTrip_51 (by decide) ?_
  refine y_nald (pc := 53) dX8_addTrip_53 (by omega) ?_
  refine x_bipush (pc := 54) (z := 16) dX8_addTrip_54 (by decide) ?_
  refine x_icmp_ne (pc := 56) 62 dX8_addTrip_56 (by decide) (by unfold inI; omega) (by unfold inI; omega) (fun c_56 => (by exfalso; omega)) (fun c_56 => ?_)
  refine x_bipush (pc := 59) (z := (-2)) dX8_addTrip_59 (by decide) ?_
  exact y_iret (pc := 61) dX8_addTrip_61 rfl rfl rfl

theorem Qx_addTrip_0 {G : GG} {m : Mem} {N : Int → Int} (hF : NF N) {a0 a1 a2 : Int} (ha0 : inI a0) (ha1 : inI a1) (ha2 : inI a2)  (h0 : ¬ (0 ≤ a0 ∧ a0 < N 3)) : Ct G MX8_addTrip (rmD 9) [rf G 41 0, .int (iI a0), .int (iI a1), .int (iI a2)] (hp (sr m N)) (.inl (some (.int (iI (0))))) (hp (sr (thr m 1) N)) := by
  refine x_entry (by decide +kernel) mwX8_addTrip rfl (Nat.le_of_ble_eq_true rfl) ?_
  show X G MX8_addTrip (rmD 9) 0 [(0, rf G 41 0), (1, .int (iI a0)), (2, .int (iI a1)), (3, .int (iI a2))] [] (hp (sr m N)) 0 0 (.inl (some (.int (iI (0))))) (hp (sr (thr m 1) N))
  have n8 := hF.1
  have n16 := hF.2.1
  have nc8 := hF.2.2.1
  have nl16 := hF.2.2.2.1.1
  refine x_aload_n (pc := 0) dX8_addTrip_0 0 rfl ?_
  refine x_aload_n (pc := 1) dX8_addTrip_1 0 rfl ?_
  refine x_iload_n (pc := 2) dX8_addTrip_2 1 rfl ?_
  refine x_callV (pc := 3) _ dX8_addTrip_3 (mq_isPack a0 ha0 (by omega)) lkX8_234 rfl rfl rfl rfl (mem_dom0 (by decide) (by decide)) (by decide) (Nat.le_of_ble_eq_true rfl) rfl ?_
  refine x_iconst (pc := 6) dX8_addTrip_6 ?_
  refine x_callV (pc := 7) _ dX8_addTrip_7 (mq_isThrown (b := 0 ≤ a0 ∧ a0 < N 3) 1) lkX8_227 rfl rfl rfl rfl (mem_dom0 (by decide) (by decide)) (by decide) (Nat.le_of_ble_eq_true rfl) rfl ?_
  refine x_nil (m' := sr (thr m 1) N) (by rw [if_neg h0]) ?_
  refine x_ifb_ne (pc := 10) 45 dX8_addTrip_10 (by decide) (fun c_10 => ?_) (fun c_10 => absurd c_10 (fun z => z h0))
  refine x_iconst (pc := 45) dX8_addTrip_45 ?_
  exact y_iret (pc := 46) dX8_addTrip_46 rfl rfl rfl

theorem Qx_addTrip_1 {G : GG} {m : Mem} {N : Int → Int} (hF : NF N) {a0 a1 a2 : Int} (ha0 : inI a0) (ha1 : inI a1) (ha2 : inI a2) (h0 : 0 ≤ a0 ∧ a0 < N 3) (h1 : ¬ ((0 ≤ a1 ∧ a1 ≤ 9999) ∧ (1 ≤ a2 ∧ a2 ≤ 100000))) : Ct G MX8_addTrip (rmD 9) [rf G 41 0, .int (iI a0), .int (iI a1), .int (iI a2)] (hp (sr m N)) (.inl (some (.int (iI (0))))) (hp (sr (thr m 2) N)) := by
  refine x_entry (by decide +kernel) mwX8_addTrip rfl (Nat.le_of_ble_eq_true rfl) ?_
  show X G MX8_addTrip (rmD 9) 0 [(0, rf G 41 0), (1, .int (iI a0)), (2, .int (iI a1)), (3, .int (iI a2))] [] (hp (sr m N)) 0 0 (.inl (some (.int (iI (0))))) (hp (sr (thr m 2) N))
  have n8 := hF.1
  have n16 := hF.2.1
  have nc8 := hF.2.2.1
  have nl16 := hF.2.2.2.1.1
  refine x_aload_n (pc := 0) dX8_addTrip_0 0 rfl ?_
  refine x_aload_n (pc := 1) dX8_addTrip_1 0 rfl ?_
  refine x_iload_n (pc := 2) dX8_addTrip_2 1 rfl ?_
  refine x_callV (pc := 3) _ dX8_addTrip_3 (mq_isPack a0 ha0 (by omega)) lkX8_234 rfl rfl rfl rfl (mem_dom0 (by decide) (by decide)) (by decide) (Nat.le_of_ble_eq_true rfl) rfl ?_
  refine x_iconst (pc := 6) dX8_addTrip_6 ?_
  refine x_callV (pc := 7) _ dX8_addTrip_7 (mq_isThrown (b := 0 ≤ a0 ∧ a0 < N 3) 1) lkX8_227 rfl rfl rfl rfl (mem_dom0 (by decide) (by decide)) (by decide) (Nat.le_of_ble_eq_true rfl) rfl ?_
  refine x_nil (m' := sr (thr m 0) N) (by rw [if_pos h0]) ?_
  refine x_ifb_ne (pc := 10) 45 dX8_addTrip_10 (by decide) (fun c_10 => absurd c_10 (fun z => z h0)) (fun c_10 => ?_)
  refine x_aload_n (pc := 13) dX8_addTrip_13 0 rfl ?_
  refine x_iload_n (pc := 14) dX8_addTrip_14 2 rfl ?_
  refine x_i2l (pc := 15) dX8_addTrip_15 ha1 ?_
  refine x_lconst (pc := 16) (z := 0) dX8_addTrip_16 (by decide) ?_
  refine x_ldc2 (pc := 17) (z := 9999) dX8_addTrip_17 kcX8_358 (by decide) ?_
  refine x_callS (pc := 20) _ dX8_addTrip_20 (mq_in a1 0 9999 (by unfold inL; unfold inI at ha1; omega) (by unfold inL; omega) (by unfold inL; omega)) lkX8_44 rfl (by decide) (Nat.le_of_ble_eq_true rfl) rfl ?_
  refine x_ifb_eq (pc := 23) 37 dX8_addTrip_23 (by decide) (fun c_23 => ?_) (fun c_23 => ?_)
  · refine x_iconst (pc := 37) dX8_addTrip_37 ?_
    refine x_iconst (pc := 38) dX8_addTrip_38 ?_
    refine x_callV (pc := 39) _ dX8_addTrip_39 (mq_isThrown (b := False) 2) lkX8_227 rfl rfl rfl rfl (mem_dom0 (by decide) (by decide)) (by decide) (Nat.le_of_ble_eq_true rfl) rfl ?_
    refine x_nil (m' := sr (thr m 2) N) (by rw [if_neg id, thr_thr]) ?_
    refine x_ifb_eq (pc := 42) 47 dX8_addTrip_42 (by decide) (fun c_42 => absurd c_42 (fun z => z id)) (fun c_42 => ?_)
    refine x_iconst (pc := 45) dX8_addTrip_45 ?_
    exact y_iret (pc := 46) dX8_addTrip_46 rfl rfl rfl
  · refine x_iload_n (pc := 26) dX8_addTrip_26 3 rfl ?_
    refine x_callS (pc := 27) _ dX8_addTrip_27 (mq_isAmount a2 ha2) lkX8_281 rfl (by decide) (Nat.le_of_ble_eq_true rfl) rfl ?_
    refine x_ifb_eq (pc := 30) 37 dX8_addTrip_30 (by decide) (fun c_30 => ?_) (fun c_30 => absurd c_30 (fun z => h1 ⟨c_23, z⟩))
    refine x_iconst (pc := 37) dX8_addTrip_37 ?_
    refine x_iconst (pc := 38) dX8_addTrip_38 ?_
    refine x_callV (pc := 39) _ dX8_addTrip_39 (mq_isThrown (b := False) 2) lkX8_227 rfl rfl rfl rfl (mem_dom0 (by decide) (by decide)) (by decide) (Nat.le_of_ble_eq_true rfl) rfl ?_
    refine x_nil (m' := sr (thr m 2) N) (by rw [if_neg id, thr_thr]) ?_
    refine x_ifb_eq (pc := 42) 47 dX8_addTrip_42 (by decide) (fun c_42 => absurd c_42 (fun z => z id)) (fun c_42 => ?_)
    refine x_iconst (pc := 45) dX8_addTrip_45 ?_
    exact y_iret (pc := 46) dX8_addTrip_46 rfl rfl rfl

theorem Q_addTrip1 {G : GG} {m : Mem} {N : Int → Int} (hF : NF N) {a0 a1 a2 : Int} (ha0 : inI a0) (ha1 : inI a1) (ha2 : inI a2) (h0 : 0 ≤ a0 ∧ a0 < N 3) (h1 : (0 ≤ a1 ∧ a1 ≤ 9999) ∧ (1 ≤ a2 ∧ a2 ≤ 100000)) (hn2 : 0 ≤ N 2 ∧ N 2 ≤ 11000) (hz : N 7 ≠ 16) (hz2 : a1 < N 2) : Ct G MX8_addTrip (rmD 9) [rf G 41 0, .int (iI a0), .int (iI a1), .int (iI a2)] (hp (sr m N)) (.inl (some (.int (iI (-4))))) (hp (sr (thr m 0) N)) := by
  refine x_entry (by decide +kernel) mwX8_addTrip rfl (Nat.le_of_ble_eq_true rfl) ?_
  show X G MX8_addTrip (rmD 9) 0 [(0, rf G 41 0), (1, .int (iI a0)), (2, .int (iI a1)), (3, .int (iI a2))] [] (hp (sr m N)) 0 0 (.inl (some (.int (iI (-4))))) (hp (sr (thr m 0) N))
  have n8 := hF.1
  have n16 := hF.2.1
  have nc8 := hF.2.2.1
  have nl16 := hF.2.2.2.1.1
  have h1a := h1.1
  have h1b := h1.2
  refine x_aload_n (pc := 0) dX8_addTrip_0 0 rfl ?_
  refine x_aload_n (pc := 1) dX8_addTrip_1 0 rfl ?_
  refine x_iload_n (pc := 2) dX8_addTrip_2 1 rfl ?_
  refine x_callV (pc := 3) _ dX8_addTrip_3 (mq_isPack a0 ha0 (by omega)) lkX8_234 rfl rfl rfl rfl (mem_dom0 (by decide) (by decide)) (by decide) (Nat.le_of_ble_eq_true rfl) rfl ?_
  refine x_iconst (pc := 6) dX8_addTrip_6 ?_
  refine x_callV (pc := 7) _ dX8_addTrip_7 (mq_isThrown (b := 0 ≤ a0 ∧ a0 < N 3) 1) lkX8_227 rfl rfl rfl rfl (mem_dom0 (by decide) (by decide)) (by decide) (Nat.le_of_ble_eq_true rfl) rfl ?_
  refine x_nil (m' := sr (thr m 0) N) (by rw [if_pos h0]) ?_
  refine x_ifb_ne (pc := 10) 45 dX8_addTrip_10 (by decide) (fun c_10 => absurd c_10 (fun z => z h0)) (fun c_10 => ?_)
  refine x_aload_n (pc := 13) dX8_addTrip_13 0 rfl ?_
  refine x_iload_n (pc := 14) dX8_addTrip_14 2 rfl ?_
  refine x_i2l (pc := 15) dX8_addTrip_15 ha1 ?_
  refine x_lconst (pc := 16) (z := 0) dX8_addTrip_16 (by decide) ?_
  refine x_ldc2 (pc := 17) (z := 9999) dX8_addTrip_17 kcX8_358 (by decide) ?_
  refine x_callS (pc := 20) _ dX8_addTrip_20 (mq_in a1 0 9999 (by unfold inL; unfold inI at ha1; omega) (by unfold inL; omega) (by unfold inL; omega)) lkX8_44 rfl (by decide) (Nat.le_of_ble_eq_true rfl) rfl ?_
  refine x_ifb_eq (pc := 23) 37 dX8_addTrip_23 (by decide) (fun c_23 => absurd c_23 (fun z => z h1.1)) (fun c_23 => ?_)
  refine x_iload_n (pc := 26) dX8_addTrip_26 3 rfl ?_
  refine x_callS (pc := 27) _ dX8_addTrip_27 (mq_isAmount a2 ha2) lkX8_281 rfl (by decide) (Nat.le_of_ble_eq_true rfl) rfl ?_
  refine x_ifb_eq (pc := 30) 37 dX8_addTrip_30 (by decide) (fun c_30 => absurd c_30 (fun z => z h1.2)) (fun c_30 => ?_)
  refine x_iconst (pc := 33) dX8_addTrip_33 ?_
  refine x_goto (pc := 34) 38 dX8_addTrip_34 (by decide) ?_
  refine x_iconst (pc := 38) dX8_addTrip_38 ?_
  refine x_callV (pc := 39) _ dX8_addTrip_39 (mq_isThrown (b := True) 2) lkX8_227 rfl rfl rfl rfl (mem_dom0 (by decide) (by decide)) (by decide) (Nat.le_of_ble_eq_true rfl) rfl ?_
  refine x_nil (m' := sr (thr m 0) N) (by rw [if_pos trivial, thr_thr]) ?_
  refine x_ifb_eq (pc := 42) 47 dX8_addTrip_42 (by decide) (fun c_42 => ?_) (fun c_42 => absurd c_42 (fun z => z trivial))
  refine x_aload_n (pc := 47) dX8_addTrip_47 0 rfl ?_
  refine y_getR (pc := 48) dX8_addTrip_48 flX8_9 rfl rfl rfl (by decide) ?_
  refine x_bipush (pc := 51) (z := 7) dX8_addTrip_51 (by decide) ?_
  refine y_nald (pc := 53) dX8_addTrip_53 (by omega) ?_
  refine x_bipush (pc := 54) (z := 16) dX8_addTrip_54 (by decide) ?_
  refine x_icmp_ne (pc := 56) 62 dX8_addTrip_56 (by decide) (by unfold inI; omega) (by unfold inI; omega) (fun c_56 => ?_) (fun c_56 => (by exfalso; omega))
  refine x_iload_n (pc := 62) dX8_addTrip_62 2 rfl ?_
  refine x_aload_n (pc := 63) dX8_addTrip_63 0 rfl ?_
  refine y_getR (pc := 64) dX8_addTrip_64 flX8_9 rfl rfl rfl (by decide) ?_
  refine x_iconst (pc := 67) dX8_addTrip_67 ?_
  refine y_nald (pc := 68) dX8_addTrip_68 (by omega) ?_
  refine x_icmp_ge (pc := 69) 75 dX8_addTrip_69 (by decide) (by unfold inI; omega) (by unfold inI; omega) (fun c_69 => (by exfalso; omega)) (fun c_69 => ?_)
  refine x_bipush (pc := 72) (z := (-4)) dX8_addTrip_72 (by decide) ?_
  exact y_iret (pc := 74) dX8_addTrip_74 rfl rfl rfl

theorem Q_addTrip2 {G : GG} {m : Mem} {N : Int → Int} (hF : NF N) {a0 a1 a2 : Int} (ha0 : inI a0) (ha1 : inI a1) (ha2 : inI a2) (h0 : 0 ≤ a0 ∧ a0 < N 3) (h1 : (0 ≤ a1 ∧ a1 ≤ 9999) ∧ (1 ≤ a2 ∧ a2 ≤ 100000)) (hm : 0 ≤ m 41 0 6 ∧ m 41 0 6 ≤ 8) (hn2 : 0 ≤ N 2 ∧ N 2 ≤ 11000) (hz : N 7 ≠ 16) (hz2 : N 2 ≤ a1) : Ct G MX8_addTrip (rmD 9) [rf G 41 0, .int (iI a0), .int (iI a1), .int (iI a2)] (hp (sr m N)) (.inl (some (.int (iI (atN N a0 a1 a2 7 - 1))))) (hp (sr (KM (thr m 0) N) (atN N a0 a1 a2))) := by
  refine x_entry (by decide +kernel) mwX8_addTrip rfl (Nat.le_of_ble_eq_true rfl) ?_
  show X G MX8_addTrip (rmD 9) 0 [(0, rf G 41 0), (1, .int (iI a0)), (2, .int (iI a1)), (3, .int (iI a2))] [] (hp (sr m N)) 0 0 (.inl (some (.int (iI (atN N a0 a1 a2 7 - 1))))) (hp (sr (KM (thr m 0) N) (atN N a0 a1 a2)))
  have n8 := hF.1
  have n16 := hF.2.1
  have nc8 := hF.2.2.1
  have nl16 := hF.2.2.2.1.1
  have h1a := h1.1
  have h1b := h1.2
  refine x_aload_n (pc := 0) dX8_addTrip_0 0 rfl ?_
  refine x_aload_n (pc := 1) dX8_addTrip_1 0 rfl ?_
  refine x_iload_n (pc := 2) dX8_addTrip_2 1 rfl ?_
  refine x_callV (pc := 3) _ dX8_addTrip_3 (mq_isPack a0 ha0 (by omega)) lkX8_234 rfl rfl rfl rfl (mem_dom0 (by decide) (by decide)) (by decide) (Nat.le_of_ble_eq_true rfl) rfl ?_
  refine x_iconst (pc := 6) dX8_addTrip_6 ?_
  refine x_callV (pc := 7) _ dX8_addTrip_7 (mq_isThrown (b := 0 ≤ a0 ∧ a0 < N 3) 1) lkX8_227 rfl rfl rfl rfl (mem_dom0 (by decide) (by decide)) (by decide) (Nat.le_of_ble_eq_true rfl) rfl ?_
  refine x_nil (m' := sr (thr m 0) N) (by rw [if_pos h0]) ?_
  refine x_ifb_ne (pc := 10) 45 dX8_addTrip_10 (by decide) (fun c_10 => absurd c_10 (fun z => z h0)) (fun c_10 => ?_)
  refine x_aload_n (pc := 13) dX8_addTrip_13 0 rfl ?_
  refine x_iload_n (pc := 14) dX8_addTrip_14 2 rfl ?_
  refine x_i2l (pc := 15) dX8_addTrip_15 ha1 ?_
  refine x_lconst (pc := 16) (z := 0) dX8_addTrip_16 (by decide) ?_
  refine x_ldc2 (pc := 17) (z := 9999) dX8_addTrip_17 kcX8_358 (by decide) ?_
  refine x_callS (pc := 20) _ dX8_addTrip_20 (mq_in a1 0 9999 (by unfold inL; unfold inI at ha1; omega) (by unfold inL; omega) (by unfold inL; omega)) lkX8_44 rfl (by decide) (Nat.le_of_ble_eq_true rfl) rfl ?_
  refine x_ifb_eq (pc := 23) 37 dX8_addTrip_23 (by decide) (fun c_23 => absurd c_23 (fun z => z h1.1)) (fun c_23 => ?_)
  refine x_iload_n (pc := 26) dX8_addTrip_26 3 rfl ?_
  refine x_callS (pc := 27) _ dX8_addTrip_27 (mq_isAmount a2 ha2) lkX8_281 rfl (by decide) (Nat.le_of_ble_eq_true rfl) rfl ?_
  refine x_ifb_eq (pc := 30) 37 dX8_addTrip_30 (by decide) (fun c_30 => absurd c_30 (fun z => z h1.2)) (fun c_30 => ?_)
  refine x_iconst (pc := 33) dX8_addTrip_33 ?_
  refine x_goto (pc := 34) 38 dX8_addTrip_34 (by decide) ?_
  refine x_iconst (pc := 38) dX8_addTrip_38 ?_
  refine x_callV (pc := 39) _ dX8_addTrip_39 (mq_isThrown (b := True) 2) lkX8_227 rfl rfl rfl rfl (mem_dom0 (by decide) (by decide)) (by decide) (Nat.le_of_ble_eq_true rfl) rfl ?_
  refine x_nil (m' := sr (thr m 0) N) (by rw [if_pos trivial, thr_thr]) ?_
  refine x_ifb_eq (pc := 42) 47 dX8_addTrip_42 (by decide) (fun c_42 => ?_) (fun c_42 => absurd c_42 (fun z => z trivial))
  refine x_aload_n (pc := 47) dX8_addTrip_47 0 rfl ?_
  refine y_getR (pc := 48) dX8_addTrip_48 flX8_9 rfl rfl rfl (by decide) ?_
  refine x_bipush (pc := 51) (z := 7) dX8_addTrip_51 (by decide) ?_
  refine y_nald (pc := 53) dX8_addTrip_53 (by omega) ?_
  refine x_bipush (pc := 54) (z := 16) dX8_addTrip_54 (by decide) ?_
  refine x_icmp_ne (pc := 56) 62 dX8_addTrip_56 (by decide) (by unfold inI; omega) (by unfold inI; omega) (fun c_56 => ?_) (fun c_56 => (by exfalso; omega))
  refine x_iload_n (pc := 62) dX8_addTrip_62 2 rfl ?_
  refine x_aload_n (pc := 63) dX8_addTrip_63 0 rfl ?_
  refine y_getR (pc := 64) dX8_addTrip_64 flX8_9 rfl rfl rfl (by decide) ?_
  refine x_iconst (pc := 67) dX8_addTrip_67 ?_
  refine y_nald (pc := 68) dX8_addTrip_68 (by omega) ?_
  refine x_icmp_ge (pc := 69) 75 dX8_addTrip_69 (by decide) (by unfold inI; omega) (by unfold inI; omega) (fun c_69 => ?_) (fun c_69 => (by exfalso; omega))
  refine x_aload_n (pc := 75) dX8_addTrip_75 0 rfl ?_
  refine x_callV (pc := 76) _ dX8_addTrip_76 (mq_keepsN (m := thr m 0) (by rw [thr_6]; exact hm)) lkX8_341 rfl rfl rfl rfl (mem_dom0 (by decide) (by decide)) (by decide) (Nat.le_of_ble_eq_true rfl) rfl ?_
  refine x_nil (m' := sr (KM (thr m 0) N) N) rfl ?_
  refine x_sipush (pc := 79) (z := 206) dX8_addTrip_79 (by decide) ?_
  refine x_iconst (pc := 82) dX8_addTrip_82 ?_
  refine x_aload_n (pc := 83) dX8_addTrip_83 0 rfl ?_
  refine y_getR (pc := 84) dX8_addTrip_84 flX8_9 rfl rfl rfl (by decide) ?_
  refine x_bipush (pc := 87) (z := 7) dX8_addTrip_87 (by decide) ?_
  refine y_nald (pc := 89) dX8_addTrip_89 (by omega) ?_
  refine x_imul (pc := 90) dX8_addTrip_90 ?_
  refine x_iadd (pc := 91) dX8_addTrip_91 ?_
  refine x_istore (pc := 92) (lv' := [(4, _), (0, _), (1, _), (2, _), (3, _)]) dX8_addTrip_92 (by decide) rfl ?_
  refine x_aload_n (pc := 94) dX8_addTrip_94 1 rfl ?_
  refine y_getR (pc := 95) dX8_addTrip_95 flX8_9 rfl rfl rfl (by decide) ?_
  refine x_iload (pc := 98) dX8_addTrip_98 0 rfl ?_
  refine x_iload_n (pc := 100) dX8_addTrip_100 2 rfl ?_
  refine y_nast (pc := 101) dX8_addTrip_101 (by omega) ?_
  refine x_aload_n (pc := 102) dX8_addTrip_102 1 rfl ?_
  refine y_getR (pc := 103) dX8_addTrip_103 flX8_9 rfl rfl rfl (by decide) ?_
  refine x_iload (pc := 106) dX8_addTrip_106 0 rfl ?_
  refine x_iconst (pc := 108) dX8_addTrip_108 ?_
  refine x_iadd (pc := 109) dX8_addTrip_109 ?_
  refine x_iload_n (pc := 110) dX8_addTrip_110 3 rfl ?_
  refine y_nast (pc := 111) dX8_addTrip_111 (by omega) ?_
  refine x_aload_n (pc := 112) dX8_addTrip_112 1 rfl ?_
  refine y_getR (pc := 113) dX8_addTrip_113 flX8_9 rfl rfl rfl (by decide) ?_
  refine x_iload (pc := 116) dX8_addTrip_116 0 rfl ?_
  refine x_iconst (pc := 118) dX8_addTrip_118 ?_
  refine x_iadd (pc := 119) dX8_addTrip_119 ?_
  refine x_iload_n (pc := 120) dX8_addTrip_120 4 rfl ?_
  refine y_nast (pc := 121) dX8_addTrip_121 (by omega) ?_
  refine x_aload_n (pc := 122) dX8_addTrip_122 1 rfl ?_
  refine y_getR (pc := 123) dX8_addTrip_123 flX8_9 rfl rfl rfl (by decide) ?_
  refine x_iload (pc := 126) dX8_addTrip_126 0 rfl ?_
  refine x_iconst (pc := 128) dX8_addTrip_128 ?_
  refine x_iadd (pc := 129) dX8_addTrip_129 ?_
  refine x_iconst (pc := 130) dX8_addTrip_130 ?_
  refine y_nast (pc := 131) dX8_addTrip_131 (by omega) ?_
  refine x_aload_n (pc := 132) dX8_addTrip_132 1 rfl ?_
  refine y_getR (pc := 133) dX8_addTrip_133 flX8_9 rfl rfl rfl (by decide) ?_
  refine x_bipush (pc := 136) (z := 7) dX8_addTrip_136 (by decide) ?_
  refine x_dup2 (pc := 138) dX8_addTrip_138 rfl rfl ?_
  refine y_nald (pc := 139) dX8_addTrip_139 (by omega) ?_
  refine x_iconst (pc := 140) dX8_addTrip_140 ?_
  refine x_iadd (pc := 141) dX8_addTrip_141 ?_
  refine y_nast (pc := 142) dX8_addTrip_142 (by omega) ?_
  refine x_aload_n (pc := 143) dX8_addTrip_143 1 rfl ?_
  refine y_getR (pc := 144) dX8_addTrip_144 flX8_9 rfl rfl rfl (by decide) ?_
  refine x_bipush (pc := 147) (z := 7) dX8_addTrip_147 (by decide) ?_
  refine y_nald (pc := 149) dX8_addTrip_149 (by omega) ?_
  refine x_iconst (pc := 150) dX8_addTrip_150 ?_
  refine x_isub (pc := 151) dX8_addTrip_151 ?_
  exact y_iret (pc := 152) dX8_addTrip_152 rfl rfl rfl
