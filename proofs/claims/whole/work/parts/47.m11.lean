theorem Q_chargeIn {G : GG} {m : Mem} {N : Int → Int} (hF : NF N) {a0 a1 : Int} (ha0 : inI a0) (ha1 : inI a1) (h0 : 0 ≤ a0 ∧ a0 < N 3) (h1 : 1 ≤ a1 ∧ a1 ≤ 500) {c9 : Mem} {p s : Nat} (hP : BP c9 p) (hB : BS c9 p s) (hR : RP c9 p N) (hS : RS c9 p s N) (ht : c9 0 s 0 ≤ 9999)  : Ct G MX8_chargeIn (rmD 10) [rf G 41 0, .int (iI a0), .int (iI a1)] (hp (sr m N)) (.inl (some (.int (iI (tkNL N a1.toNat (30 + 7 * a0 + 1)))))) (hp (asX (thr m 0) N N)) := by
  refine x_entry (by decide +kernel) mwX8_chargeIn rfl (Nat.le_of_ble_eq_true rfl) ?_
  show X G MX8_chargeIn (rmD 10) 0 [(0, rf G 41 0), (1, .int (iI a0)), (2, .int (iI a1))] [] (hp (sr m N)) 0 0 (.inl (some (.int (iI (tkNL N a1.toNat (30 + 7 * a0 + 1)))))) (hp (asX (thr m 0) N N))
  have n8 := hF.1
  have n16 := hF.2.1
  have nc8 := hF.2.2.1
  have nl16 := hF.2.2.2.1.1
  have t0 := hB.1
  refine x_aload_n (pc := 0) dX8_chargeIn_0 0 rfl ?_
  refine x_aload_n (pc := 1) dX8_chargeIn_1 0 rfl ?_
  refine x_iload_n (pc := 2) dX8_chargeIn_2 1 rfl ?_
  refine x_callV (pc := 3) _ dX8_chargeIn_3 (mq_isPack a0 ha0 (by omega)) lkX8_234 rfl rfl rfl rfl (mem_dom0 (by decide) (by decide)) (by decide) (Nat.le_of_ble_eq_true rfl) rfl ?_
  refine x_iconst (pc := 6) dX8_chargeIn_6 ?_
  refine x_callV (pc := 7) _ dX8_chargeIn_7 (mq_isThrown (b := 0 ≤ a0 ∧ a0 < N 3) 1) lkX8_227 rfl rfl rfl rfl (mem_dom0 (by decide) (by decide)) (by decide) (Nat.le_of_ble_eq_true rfl) rfl ?_
  refine x_nil (m' := sr (thr m 0) N) (by rw [if_pos h0]) ?_
  refine x_ifb_ne (pc := 10) 25 dX8_chargeIn_10 (by decide) (fun c_10 => absurd c_10 (fun z => z h0)) (fun c_10 => ?_)
  refine x_aload_n (pc := 13) dX8_chargeIn_13 0 rfl ?_
  refine x_iload_n (pc := 14) dX8_chargeIn_14 2 rfl ?_
  refine x_callS (pc := 15) _ dX8_chargeIn_15 (mq_areTicks a1 ha1) lkX8_371 rfl (by decide) (Nat.le_of_ble_eq_true rfl) rfl ?_
  refine x_iconst (pc := 18) dX8_chargeIn_18 ?_
  refine x_callV (pc := 19) _ dX8_chargeIn_19 (mq_isThrown (b := 1 ≤ a1 ∧ a1 ≤ 500) 2) lkX8_227 rfl rfl rfl rfl (mem_dom0 (by decide) (by decide)) (by decide) (Nat.le_of_ble_eq_true rfl) rfl ?_
  refine x_nil (m' := sr (thr m 0) N) (by rw [if_pos h1, thr_thr]) ?_
  refine x_ifb_eq (pc := 22) 27 dX8_chargeIn_22 (by decide) (fun c_22 => ?_) (fun c_22 => absurd c_22 (fun z => z h1))
  refine x_aload_n (pc := 27) dX8_chargeIn_27 0 rfl ?_
  refine x_iload_n (pc := 28) dX8_chargeIn_28 1 rfl ?_
  refine x_iconst (pc := 29) dX8_chargeIn_29 ?_
  refine x_callV (pc := 30) _ dX8_chargeIn_30 (mq_ofPack a0 1 (by omega)) lkX8_189 rfl rfl rfl rfl (mem_dom0 (by decide) (by decide)) (by decide) (Nat.le_of_ble_eq_true rfl) rfl ?_
  refine x_aload_n (pc := 33) dX8_chargeIn_33 0 rfl ?_
  refine x_iload_n (pc := 34) dX8_chargeIn_34 1 rfl ?_
  refine x_iconst (pc := 35) dX8_chargeIn_35 ?_
  refine x_iload_n (pc := 36) dX8_chargeIn_36 2 rfl ?_
  refine x_callV (pc := 37) _ dX8_chargeIn_37 (mq_grownIn (m := thr m 0) hP hB hR hS a0 1 a1 (by omega) (by omega) (by omega) (by omega)) lkX8_374 rfl rfl rfl rfl (mem_dom0 (by decide) (by decide)) (by decide) (Nat.le_of_ble_eq_true rfl) rfl ?_
  refine x_iadd (pc := 40) dX8_chargeIn_40 ?_
  exact y_iret (pc := 41) dX8_chargeIn_41 rfl (by omega) rfl

theorem Qx_chargeIn_0 {G : GG} {m : Mem} {N : Int → Int} (hF : NF N) {a0 a1 : Int} (ha0 : inI a0) (ha1 : inI a1)  (h0 : ¬ (0 ≤ a0 ∧ a0 < N 3)) : Ct G MX8_chargeIn (rmD 10) [rf G 41 0, .int (iI a0), .int (iI a1)] (hp (sr m N)) (.inl (some (.int (iI (0))))) (hp (sr (thr m 1) N)) := by
  refine x_entry (by decide +kernel) mwX8_chargeIn rfl (Nat.le_of_ble_eq_true rfl) ?_
  show X G MX8_chargeIn (rmD 10) 0 [(0, rf G 41 0), (1, .int (iI a0)), (2, .int (iI a1))] [] (hp (sr m N)) 0 0 (.inl (some (.int (iI (0))))) (hp (sr (thr m 1) N))
  have n8 := hF.1
  have n16 := hF.2.1
  have nc8 := hF.2.2.1
  have nl16 := hF.2.2.2.1.1
  refine x_aload_n (pc := 0) dX8_chargeIn_0 0 rfl ?_
  refine x_aload_n (pc := 1) dX8_chargeIn_1 0 rfl ?_
  refine x_iload_n (pc := 2) dX8_chargeIn_2 1 rfl ?_
  refine x_callV (pc := 3) _ dX8_chargeIn_3 (mq_isPack a0 ha0 (by omega)) lkX8_234 rfl rfl rfl rfl (mem_dom0 (by decide) (by decide)) (by decide) (Nat.le_of_ble_eq_true rfl) rfl ?_
  refine x_iconst (pc := 6) dX8_chargeIn_6 ?_
  refine x_callV (pc := 7) _ dX8_chargeIn_7 (mq_isThrown (b := 0 ≤ a0 ∧ a0 < N 3) 1) lkX8_227 rfl rfl rfl rfl (mem_dom0 (by decide) (by decide)) (by decide) (Nat.le_of_ble_eq_true rfl) rfl ?_
  refine x_nil (m' := sr (thr m 1) N) (by rw [if_neg h0]) ?_
  refine x_ifb_ne (pc := 10) 25 dX8_chargeIn_10 (by decide) (fun c_10 => ?_) (fun c_10 => absurd c_10 (fun z => z h0))
  refine x_iconst (pc := 25) dX8_chargeIn_25 ?_
  exact y_iret (pc := 26) dX8_chargeIn_26 rfl rfl rfl

theorem Qx_chargeIn_1 {G : GG} {m : Mem} {N : Int → Int} (hF : NF N) {a0 a1 : Int} (ha0 : inI a0) (ha1 : inI a1) (h0 : 0 ≤ a0 ∧ a0 < N 3) (h1 : ¬ (1 ≤ a1 ∧ a1 ≤ 500)) : Ct G MX8_chargeIn (rmD 10) [rf G 41 0, .int (iI a0), .int (iI a1)] (hp (sr m N)) (.inl (some (.int (iI (0))))) (hp (sr (thr m 2) N)) := by
  refine x_entry (by decide +kernel) mwX8_chargeIn rfl (Nat.le_of_ble_eq_true rfl) ?_
  show X G MX8_chargeIn (rmD 10) 0 [(0, rf G 41 0), (1, .int (iI a0)), (2, .int (iI a1))] [] (hp (sr m N)) 0 0 (.inl (some (.int (iI (0))))) (hp (sr (thr m 2) N))
  have n8 := hF.1
  have n16 := hF.2.1
  have nc8 := hF.2.2.1
  have nl16 := hF.2.2.2.1.1
  refine x_aload_n (pc := 0) dX8_chargeIn_0 0 rfl ?_
  refine x_aload_n (pc := 1) dX8_chargeIn_1 0 rfl ?_
  refine x_iload_n (pc := 2) dX8_chargeIn_2 1 rfl ?_
  refine x_callV (pc := 3) _ dX8_chargeIn_3 (mq_isPack a0 ha0 (by omega)) lkX8_234 rfl rfl rfl rfl (mem_dom0 (by decide) (by decide)) (by decide) (Nat.le_of_ble_eq_true rfl) rfl ?_
  refine x_iconst (pc := 6) dX8_chargeIn_6 ?_
  refine x_callV (pc := 7) _ dX8_chargeIn_7 (mq_isThrown (b := 0 ≤ a0 ∧ a0 < N 3) 1) lkX8_227 rfl rfl rfl rfl (mem_dom0 (by decide) (by decide)) (by decide) (Nat.le_of_ble_eq_true rfl) rfl ?_
  refine x_nil (m' := sr (thr m 0) N) (by rw [if_pos h0]) ?_
  refine x_ifb_ne (pc := 10) 25 dX8_chargeIn_10 (by decide) (fun c_10 => absurd c_10 (fun z => z h0)) (fun c_10 => ?_)
  refine x_aload_n (pc := 13) dX8_chargeIn_13 0 rfl ?_
  refine x_iload_n (pc := 14) dX8_chargeIn_14 2 rfl ?_
  refine x_callS (pc := 15) _ dX8_chargeIn_15 (mq_areTicks a1 ha1) lkX8_371 rfl (by decide) (Nat.le_of_ble_eq_true rfl) rfl ?_
  refine x_iconst (pc := 18) dX8_chargeIn_18 ?_
  refine x_callV (pc := 19) _ dX8_chargeIn_19 (mq_isThrown (b := 1 ≤ a1 ∧ a1 ≤ 500) 2) lkX8_227 rfl rfl rfl rfl (mem_dom0 (by decide) (by decide)) (by decide) (Nat.le_of_ble_eq_true rfl) rfl ?_
  refine x_nil (m' := sr (thr m 2) N) (by rw [if_neg h1, thr_thr]) ?_
  refine x_ifb_eq (pc := 22) 27 dX8_chargeIn_22 (by decide) (fun c_22 => absurd c_22 (fun z => z h1)) (fun c_22 => ?_)
  refine x_iconst (pc := 25) dX8_chargeIn_25 ?_
  exact y_iret (pc := 26) dX8_chargeIn_26 rfl rfl rfl

theorem Q_wearIn {G : GG} {m : Mem} {N : Int → Int} (hF : NF N) {a0 a1 : Int} (ha0 : inI a0) (ha1 : inI a1) (h0 : 0 ≤ a0 ∧ a0 < N 3) (h1 : 1 ≤ a1 ∧ a1 ≤ 500) {c9 : Mem} {p s : Nat} (hP : BP c9 p) (hB : BS c9 p s) (hR : RP c9 p N) (hS : RS c9 p s N) (ht : c9 0 s 0 ≤ 9999)  : Ct G MX8_wearIn (rmD 10) [rf G 41 0, .int (iI a0), .int (iI a1)] (hp (sr m N)) (.inl (some (.int (iI (tkNL N a1.toNat (30 + 7 * a0 + 2) - N (30 + 7 * a0 + 2)))))) (hp (asX (thr m 0) N N)) := by
  refine x_entry (by decide +kernel) mwX8_wearIn rfl (Nat.le_of_ble_eq_true rfl) ?_
  show X G MX8_wearIn (rmD 10) 0 [(0, rf G 41 0), (1, .int (iI a0)), (2, .int (iI a1))] [] (hp (sr m N)) 0 0 (.inl (some (.int (iI (tkNL N a1.toNat (30 + 7 * a0 + 2) - N (30 + 7 * a0 + 2)))))) (hp (asX (thr m 0) N N))
  have n8 := hF.1
  have n16 := hF.2.1
  have nc8 := hF.2.2.1
  have nl16 := hF.2.2.2.1.1
  have t0 := hB.1
  refine x_aload_n (pc := 0) dX8_wearIn_0 0 rfl ?_
  refine x_aload_n (pc := 1) dX8_wearIn_1 0 rfl ?_
  refine x_iload_n (pc := 2) dX8_wearIn_2 1 rfl ?_
  refine x_callV (pc := 3) _ dX8_wearIn_3 (mq_isPack a0 ha0 (by omega)) lkX8_234 rfl rfl rfl rfl (mem_dom0 (by decide) (by decide)) (by decide) (Nat.le_of_ble_eq_true rfl) rfl ?_
  refine x_iconst (pc := 6) dX8_wearIn_6 ?_
  refine x_callV (pc := 7) _ dX8_wearIn_7 (mq_isThrown (b := 0 ≤ a0 ∧ a0 < N 3) 1) lkX8_227 rfl rfl rfl rfl (mem_dom0 (by decide) (by decide)) (by decide) (Nat.le_of_ble_eq_true rfl) rfl ?_
  refine x_nil (m' := sr (thr m 0) N) (by rw [if_pos h0]) ?_
  refine x_ifb_ne (pc := 10) 25 dX8_wearIn_10 (by decide) (fun c_10 => absurd c_10 (fun z => z h0)) (fun c_10 => ?_)
  refine x_aload_n (pc := 13) dX8_wearIn_13 0 rfl ?_
  refine x_iload_n (pc := 14) dX8_wearIn_14 2 rfl ?_
  refine x_callS (pc := 15) _ dX8_wearIn_15 (mq_areTicks a1 ha1) lkX8_371 rfl (by decide) (Nat.le_of_ble_eq_true rfl) rfl ?_
  refine x_iconst (pc := 18) dX8_wearIn_18 ?_
  refine x_callV (pc := 19) _ dX8_wearIn_19 (mq_isThrown (b := 1 ≤ a1 ∧ a1 ≤ 500) 2) lkX8_227 rfl rfl rfl rfl (mem_dom0 (by decide) (by decide)) (by decide) (Nat.le_of_ble_eq_true rfl) rfl ?_
  refine x_nil (m' := sr (thr m 0) N) (by rw [if_pos h1, thr_thr]) ?_
  refine x_ifb_eq (pc := 22) 27 dX8_wearIn_22 (by decide) (fun c_22 => ?_) (fun c_22 => absurd c_22 (fun z => z h1))
  refine x_aload_n (pc := 27) dX8_wearIn_27 0 rfl ?_
  refine x_iload_n (pc := 28) dX8_wearIn_28 1 rfl ?_
  refine x_iconst (pc := 29) dX8_wearIn_29 ?_
  refine x_iload_n (pc := 30) dX8_wearIn_30 2 rfl ?_
  refine x_callV (pc := 31) _ dX8_wearIn_31 (mq_grownIn (m := thr m 0) hP hB hR hS a0 2 a1 (by omega) (by omega) (by omega) (by omega)) lkX8_374 rfl rfl rfl rfl (mem_dom0 (by decide) (by decide)) (by decide) (Nat.le_of_ble_eq_true rfl) rfl ?_
  exact y_iret (pc := 34) dX8_wearIn_34 rfl rfl rfl

theorem Qx_wearIn_0 {G : GG} {m : Mem} {N : Int → Int} (hF : NF N) {a0 a1 : Int} (ha0 : inI a0) (ha1 : inI a1)  (h0 : ¬ (0 ≤ a0 ∧ a0 < N 3)) : Ct G MX8_wearIn (rmD 10) [rf G 41 0, .int (iI a0), .int (iI a1)] (hp (sr m N)) (.inl (some (.int (iI (0))))) (hp (sr (thr m 1) N)) := by
  refine x_entry (by decide +kernel) mwX8_wearIn rfl (Nat.le_of_ble_eq_true rfl) ?_
  show X G MX8_wearIn (rmD 10) 0 [(0, rf G 41 0), (1, .int (iI a0)), (2, .int (iI a1))] [] (hp (sr m N)) 0 0 (.inl (some (.int (iI (0))))) (hp (sr (thr m 1) N))
  have n8 := hF.1
  have n16 := hF.2.1
  have nc8 := hF.2.2.1
  have nl16 := hF.2.2.2.1.1
  refine x_aload_n (pc := 0) dX8_wearIn_0 0 rfl ?_
  refine x_aload_n (pc := 1) dX8_wearIn_1 0 rfl ?_
  refine x_iload_n (pc := 2) dX8_wearIn_2 1 rfl ?_
  refine x_callV (pc := 3) _ dX8_wearIn_3 (mq_isPack a0 ha0 (by omega)) lkX8_234 rfl rfl rfl rfl (mem_dom0 (by decide) (by decide)) (by decide) (Nat.le_of_ble_eq_true rfl) rfl ?_
  refine x_iconst (pc := 6) dX8_wearIn_6 ?_
  refine x_callV (pc := 7) _ dX8_wearIn_7 (mq_isThrown (b := 0 ≤ a0 ∧ a0 < N 3) 1) lkX8_227 rfl rfl rfl rfl (mem_dom0 (by decide) (by decide)) (by decide) (Nat.le_of_ble_eq_true rfl) rfl ?_
  refine x_nil (m' := sr (thr m 1) N) (by rw [if_neg h0]) ?_
  refine x_ifb_ne (pc := 10) 25 dX8_wearIn_10 (by decide) (fun c_10 => ?_) (fun c_10 => absurd c_10 (fun z => z h0))
  refine x_iconst (pc := 25) dX8_wearIn_25 ?_
  exact y_iret (pc := 26) dX8_wearIn_26 rfl rfl rfl

theorem Qx_wearIn_1 {G : GG} {m : Mem} {N : Int → Int} (hF : NF N) {a0 a1 : Int} (ha0 : inI a0) (ha1 : inI a1) (h0 : 0 ≤ a0 ∧ a0 < N 3) (h1 : ¬ (1 ≤ a1 ∧ a1 ≤ 500)) : Ct G MX8_wearIn (rmD 10) [rf G 41 0, .int (iI a0), .int (iI a1)] (hp (sr m N)) (.inl (some (.int (iI (0))))) (hp (sr (thr m 2) N)) := by
  refine x_entry (by decide +kernel) mwX8_wearIn rfl (Nat.le_of_ble_eq_true rfl) ?_
  show X G MX8_wearIn (rmD 10) 0 [(0, rf G 41 0), (1, .int (iI a0)), (2, .int (iI a1))] [] (hp (sr m N)) 0 0 (.inl (some (.int (iI (0))))) (hp (sr (thr m 2) N))
  have n8 := hF.1
  have n16 := hF.2.1
  have nc8 := hF.2.2.1
  have nl16 := hF.2.2.2.1.1
  refine x_aload_n (pc := 0) dX8_wearIn_0 0 rfl ?_
  refine x_aload_n (pc := 1) dX8_wearIn_1 0 rfl ?_
  refine x_iload_n (pc := 2) dX8_wearIn_2 1 rfl ?_
  refine x_callV (pc := 3) _ dX8_wearIn_3 (mq_isPack a0 ha0 (by omega)) lkX8_234 rfl rfl rfl rfl (mem_dom0 (by decide) (by decide)) (by decide) (Nat.le_of_ble_eq_true rfl) rfl ?_
  refine x_iconst (pc := 6) dX8_wearIn_6 ?_
  refine x_callV (pc := 7) _ dX8_wearIn_7 (mq_isThrown (b := 0 ≤ a0 ∧ a0 < N 3) 1) lkX8_227 rfl rfl rfl rfl (mem_dom0 (by decide) (by decide)) (by decide) (Nat.le_of_ble_eq_true rfl) rfl ?_
  refine x_nil (m' := sr (thr m 0) N) (by rw [if_pos h0]) ?_
  refine x_ifb_ne (pc := 10) 25 dX8_wearIn_10 (by decide) (fun c_10 => absurd c_10 (fun z => z h0)) (fun c_10 => ?_)
  refine x_aload_n (pc := 13) dX8_wearIn_13 0 rfl ?_
  refine x_iload_n (pc := 14) dX8_wearIn_14 2 rfl ?_
  refine x_callS (pc := 15) _ dX8_wearIn_15 (mq_areTicks a1 ha1) lkX8_371 rfl (by decide) (Nat.le_of_ble_eq_true rfl) rfl ?_
  refine x_iconst (pc := 18) dX8_wearIn_18 ?_
  refine x_callV (pc := 19) _ dX8_wearIn_19 (mq_isThrown (b := 1 ≤ a1 ∧ a1 ≤ 500) 2) lkX8_227 rfl rfl rfl rfl (mem_dom0 (by decide) (by decide)) (by decide) (Nat.le_of_ble_eq_true rfl) rfl ?_
  refine x_nil (m' := sr (thr m 2) N) (by rw [if_neg h1, thr_thr]) ?_
  refine x_ifb_eq (pc := 22) 27 dX8_wearIn_22 (by decide) (fun c_22 => absurd c_22 (fun z => z h1)) (fun c_22 => ?_)
  refine x_iconst (pc := 25) dX8_wearIn_25 ?_
  exact y_iret (pc := 26) dX8_wearIn_26 rfl rfl rfl

def enR (N : Int → Int) (l : Int) : Nat → Int → Int
  | 0 => N
  | n + 1 => if N (318 + 7 * l + 5) ≤ 2 then enR (tkN N) l n else N
def enC (N : Int → Int) (l : Int) : Nat → Int
  | 0 => 0
  | n + 1 => if N (318 + 7 * l + 5) ≤ 2 then enC (tkN N) l n + 1 else 0
theorem as_up {m : Mem} {N N' : Int → Int} {j z : Int} : sr (up3 (cpX (sr m N) 42 44 0 0 430) 41 0 j z) N' = asX (up3 m 41 0 j z) N N' := by
  unfold asX
  congr 1
  funext k i q
  rw [up3_apply]
  unfold cpX
  by_cases h : k = 41 ∧ i = 0 ∧ q = j
  · rw [if_pos h, if_neg (by omega), h.1, h.2.1, h.2.2, sr_k (by decide), up3_at]
  · rw [if_neg h]
    by_cases h2 : k = 44 ∧ i = 0 ∧ 430 * 0 ≤ q ∧ q < 430 * 0 + 430
    · rw [if_pos h2, if_pos h2, sr_42, sr_42]
    · rw [if_neg h2, if_neg h2]
      by_cases h3 : k = 42
      · subst h3
        unfold sr
        split
        · rfl
        · rw [up3_ne (by omega)]
      · rw [sr_k h3, sr_k h3, up3_apply, if_neg h]
theorem lp_ends {G : GG} {m : Mem} {N0 : Int → Int} {p s : Nat} (l z9 : Int) (hl : 0 ≤ l ∧ l < 16) (N9 : Int → Int) : ∀ (n : Nat) (c9 : Mem) (N : Int → Int) (i : Int), BP c9 p → BS c9 p s → RP c9 p N → RS c9 p s N → l < c9 2 s 0 → c9 0 s 0 + n ≤ 11000 → 0 ≤ i → i + n = 500 → N9 = enR N l n → z9 = i + enC N l n → X G MX8_ends (rmD 9) 6 [(2, .int (iI i)), (0, rf G 41 0), (1, .int (iI l))] [] (hp (asX m N0 N)) 0 0 (.inl (some (.int (iI (if N9 (318 + 7 * l + 5) ≤ 2 then -1 else z9))))) (hp (asX (up3 m 41 0 18 (N9 (318 + 7 * l + 5))) N0 N0)) := by
  intro n
  induction n with
  | zero =>
    intro c9 N i hP hB hR hS h2 ht h0 h1 h9 hz
    have lf := LN_of hP hB hR hS hl.1 h2
    have l5 := lf.2.2.2.2.2.1
    refine x_iload_n (pc := 6) dX8_ends_6 0 rfl ?_
    refine x_sipush (pc := 7) (z := 500) dX8_ends_7 (by decide) ?_
    refine x_icmp_ge (pc := 10) 31 dX8_ends_10 (by decide) (by unfold inI; omega) (by unfold inI; omega) (fun c_10 => ?_) (fun c_10 => (by exfalso; omega))
    have e9 : N9 = N := h9
    have ez : z9 = i := by rw [hz]; show i + 0 = i; omega
    refine x_aload_n (pc := 31) dX8_ends_31 1 rfl ?_
    refine x_iload_n (pc := 32) dX8_ends_32 2 rfl ?_
    refine x_callV (pc := 33) _ dX8_ends_33 (mq_isOpen l (by omega) (by unfold inI; omega)) lkX8_221 rfl rfl rfl rfl (mem_dom0 (by decide) (by decide)) (by decide) (Nat.le_of_ble_eq_true rfl) rfl ?_
    refine x_ifb_eq (pc := 36) 43 dX8_ends_36 (by decide) (fun c_36 => ?_) (fun c_36 => ?_)
    · refine x_iload_n (pc := 43) dX8_ends_43 0 rfl ?_
      refine x_istore_n (pc := 44) (lv' := [(3, _), (2, _), (0, _), (1, _)]) dX8_ends_44 rfl (by decide) rfl ?_
      refine x_aload_n (pc := 45) dX8_ends_45 2 rfl ?_
      refine x_aload_n (pc := 46) dX8_ends_46 2 rfl ?_
      refine x_iload_n (pc := 47) dX8_ends_47 3 rfl ?_
      refine x_iconst (pc := 48) dX8_ends_48 ?_
      refine x_callV (pc := 49) _ dX8_ends_49 (mq_ofLoan l 5 (by omega)) lkX8_50 rfl rfl rfl rfl (mem_dom0 (by decide) (by decide)) (by decide) (Nat.le_of_ble_eq_true rfl) rfl ?_
      refine y_putM (pc := 52) 18 dX8_ends_52 fwX8_377 rfl rfl rfl ?_
      refine x_nil (m' := asX (up3 m 41 0 18 (N (318 + 7 * l + 5))) N0 N) as_up ?_
      refine x_aload_n (pc := 55) dX8_ends_55 2 rfl ?_
      refine x_callV (pc := 56) _ dX8_ends_56 (mq_putsBack) lkX8_366 rfl rfl rfl rfl (mem_dom0 (by decide) (by decide)) (by decide) (Nat.le_of_ble_eq_true rfl) rfl ?_
      refine x_meq as_back ?_
      refine x_iload_n (pc := 59) dX8_ends_59 0 rfl ?_
      exact y_iret (pc := 60) dX8_ends_60 rfl (by rw [e9, ez, if_neg c_36]) (by rw [e9])
    · refine x_iconst (pc := 39) dX8_ends_39 ?_
      refine x_goto (pc := 40) 44 dX8_ends_40 (by decide) ?_
      refine x_istore_n (pc := 44) (lv' := [(3, _), (2, _), (0, _), (1, _)]) dX8_ends_44 rfl (by decide) rfl ?_
      refine x_aload_n (pc := 45) dX8_ends_45 2 rfl ?_
      refine x_aload_n (pc := 46) dX8_ends_46 2 rfl ?_
      refine x_iload_n (pc := 47) dX8_ends_47 3 rfl ?_
      refine x_iconst (pc := 48) dX8_ends_48 ?_
      refine x_callV (pc := 49) _ dX8_ends_49 (mq_ofLoan l 5 (by omega)) lkX8_50 rfl rfl rfl rfl (mem_dom0 (by decide) (by decide)) (by decide) (Nat.le_of_ble_eq_true rfl) rfl ?_
      refine y_putM (pc := 52) 18 dX8_ends_52 fwX8_377 rfl rfl rfl ?_
      refine x_nil (m' := asX (up3 m 41 0 18 (N (318 + 7 * l + 5))) N0 N) as_up ?_
      refine x_aload_n (pc := 55) dX8_ends_55 2 rfl ?_
      refine x_callV (pc := 56) _ dX8_ends_56 (mq_putsBack) lkX8_366 rfl rfl rfl rfl (mem_dom0 (by decide) (by decide)) (by decide) (Nat.le_of_ble_eq_true rfl) rfl ?_
      refine x_meq as_back ?_
      refine x_iload_n (pc := 59) dX8_ends_59 0 rfl ?_
      exact y_iret (pc := 60) dX8_ends_60 rfl (by rw [e9, if_pos c_36]) (by rw [e9])
  | succ n ih =>
    intro c9 N i hP hB hR hS h2 ht h0 h1 h9 hz
    have lf := LN_of hP hB hR hS hl.1 h2
    have l5 := lf.2.2.2.2.2.1
    have b := tkC_f hP hB (by omega)
    have r := (R_tk hP hB hR hS).2.2.2.2.2
    refine x_iload_n (pc := 6) dX8_ends_6 0 rfl ?_
    refine x_sipush (pc := 7) (z := 500) dX8_ends_7 (by decide) ?_
    refine x_icmp_ge (pc := 10) 31 dX8_ends_10 (by decide) (by unfold inI; omega) (by unfold inI; omega) (fun c_10 => (by exfalso; omega)) (fun c_10 => ?_)
    refine x_aload_n (pc := 13) dX8_ends_13 1 rfl ?_
    refine x_iload_n (pc := 14) dX8_ends_14 2 rfl ?_
    refine x_callV (pc := 15) _ dX8_ends_15 (mq_isOpen l (by omega) (by unfold inI; omega)) lkX8_221 rfl rfl rfl rfl (mem_dom0 (by decide) (by decide)) (by decide) (Nat.le_of_ble_eq_true rfl) rfl ?_
    refine x_ifb_eq (pc := 18) 31 dX8_ends_18 (by decide) (fun c_18 => ?_) (fun c_18 => ?_)
    · have e9 : N9 = N := by rw [h9]; show (if _ then _ else _) = _; rw [if_neg c_18]
      have ez : z9 = i := by rw [hz]; show i + (if _ then _ else _) = _; rw [if_neg c_18]; omega
      refine x_aload_n (pc := 31) dX8_ends_31 1 rfl ?_
      refine x_iload_n (pc := 32) dX8_ends_32 2 rfl ?_
      refine x_callV (pc := 33) _ dX8_ends_33 (mq_isOpen l (by omega) (by unfold inI; omega)) lkX8_221 rfl rfl rfl rfl (mem_dom0 (by decide) (by decide)) (by decide) (Nat.le_of_ble_eq_true rfl) rfl ?_
      refine x_ifb_eq (pc := 36) 43 dX8_ends_36 (by decide) (fun c_36 => ?_) (fun c_36 => absurd c_36 c_18)
      refine x_iload_n (pc := 43) dX8_ends_43 0 rfl ?_
      refine x_istore_n (pc := 44) (lv' := [(3, _), (2, _), (0, _), (1, _)]) dX8_ends_44 rfl (by decide) rfl ?_
      refine x_aload_n (pc := 45) dX8_ends_45 2 rfl ?_
      refine x_aload_n (pc := 46) dX8_ends_46 2 rfl ?_
      refine x_iload_n (pc := 47) dX8_ends_47 3 rfl ?_
      refine x_iconst (pc := 48) dX8_ends_48 ?_
      refine x_callV (pc := 49) _ dX8_ends_49 (mq_ofLoan l 5 (by omega)) lkX8_50 rfl rfl rfl rfl (mem_dom0 (by decide) (by decide)) (by decide) (Nat.le_of_ble_eq_true rfl) rfl ?_
      refine y_putM (pc := 52) 18 dX8_ends_52 fwX8_377 rfl rfl rfl ?_
      refine x_nil (m' := asX (up3 m 41 0 18 (N (318 + 7 * l + 5))) N0 N) as_up ?_
      refine x_aload_n (pc := 55) dX8_ends_55 2 rfl ?_
      refine x_callV (pc := 56) _ dX8_ends_56 (mq_putsBack) lkX8_366 rfl rfl rfl rfl (mem_dom0 (by decide) (by decide)) (by decide) (Nat.le_of_ble_eq_true rfl) rfl ?_
      refine x_meq as_back ?_
      refine x_iload_n (pc := 59) dX8_ends_59 0 rfl ?_
      exact y_iret (pc := 60) dX8_ends_60 rfl (by rw [e9, ez, if_neg c_18]) (by rw [e9])
    · refine x_aload_n (pc := 21) dX8_ends_21 1 rfl ?_
      refine x_callV (pc := 22) _ dX8_ends_22 (mq_passes hP hB hR hS) lkX8_360 rfl rfl rfl rfl (mem_dom0 (by decide) (by decide)) (by decide) (Nat.le_of_ble_eq_true rfl) rfl ?_
      refine x_iinc (pc := 25) (lv' := [(2, _), (0, _), (1, _)]) dX8_ends_25 0 rfl (by decide) rfl ?_
      refine x_goto (pc := 28) 6 dX8_ends_28 (by decide) ?_
      exact x_lv [0, 1, 2] rfl (ih _ _ (i + 1) b.1 b.2 r.1 r.2.1 (by rw [tkC_k (by omega)]; exact h2) (by rw [tkC_t]; omega) (by omega) (by omega) (by rw [h9]; show (if _ then _ else _) = _; rw [if_pos c_18]) (by rw [hz]; show i + (if _ then _ else _) = _; rw [if_pos c_18]; omega))

theorem mq_ends {G : GG} {m : Mem} {N : Int → Int} {c9 : Mem} {p s : Nat} (hP : BP c9 p) (hB : BS c9 p s) (hR : RP c9 p N) (hS : RS c9 p s N) (ht : c9 0 s 0 ≤ 9999) (l : Int) (hl : 0 ≤ l ∧ l < 16) (h2 : l < c9 2 s 0) : Ct G MX8_ends (rmD 9) [rf G 41 0, .int (iI l)] (hp (sr m N)) (.inl (some (.int (iI (if enR N l 500 (318 + 7 * l + 5) ≤ 2 then -1 else enC N l 500))))) (hp (asX (up3 m 41 0 18 (enR N l 500 (318 + 7 * l + 5))) N N)) := by
  refine x_entry (by decide +kernel) mwX8_ends rfl (Nat.le_of_ble_eq_true rfl) ?_
  show X G MX8_ends (rmD 9) 0 [(0, rf G 41 0), (1, .int (iI l))] [] (hp (sr m N)) 0 0 (.inl (some (.int (iI (if enR N l 500 (318 + 7 * l + 5) ≤ 2 then -1 else enC N l 500))))) (hp (asX (up3 m 41 0 18 (enR N l 500 (318 + 7 * l + 5))) N N))
  refine x_aload_n (pc := 0) dX8_ends_0 0 rfl ?_
  refine x_callV (pc := 1) _ dX8_ends_1 (mq_putsAside) lkX8_363 rfl rfl rfl rfl (mem_dom0 (by decide) (by decide)) (by decide) (Nat.le_of_ble_eq_true rfl) rfl ?_
  refine x_nil (m' := asX m N N) as_sr ?_
  refine x_iconst (pc := 4) dX8_ends_4 ?_
  refine x_istore_n (pc := 5) (lv' := [(2, _), (0, _), (1, _)]) dX8_ends_5 rfl (by decide) rfl ?_
  have t0 := hB.1
  exact x_lv [0, 1, 2] rfl (lp_ends l _ hl _ 500 c9 N 0 hP hB hR hS h2 (by omega) (by omega) (by omega) rfl (by omega))
