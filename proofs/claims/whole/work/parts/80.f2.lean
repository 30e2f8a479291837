/-! usedPart and fullness -/
def upV (u t : Int) : UInt64 := if t = 0 then FP.dconst0 else FP.ddiv (UInt64.ofNat (FP.Core.fromInt FP.Core.b64 u)) (UInt64.ofNat (FP.Core.fromInt FP.Core.b64 t))
def fuV (u t : Int) : UInt32 := FP.fdiv (FP.i2f (iI u)) (FP.i2f (iI t))
theorem upV_n {u t : Int} (hu : 0 ≤ u ∧ u < 2147483648) (ht : 0 ≤ t ∧ t < 2147483648) : vf_n64 (upV u t) := by
  unfold upV
  by_cases g : t = 0
  · rw [if_pos g, n64_iff]; decide +kernel
  · rw [if_neg g]; exact n_dd (by omega) (by omega)
theorem in_11 {z : Int} (h : 0 ≤ z ∧ z < 2147483648) : inI z := by unfold inI; omega
theorem P_usedPart {G : GG} {m : Mem} (hu : 0 ≤ m 0 0 2 ∧ m 0 0 2 < 2147483648) (ht : 0 ≤ m 0 0 1 ∧ m 0 0 1 < 2147483648) : Ct G MX7_usedPart (rmD 9) [rf G 38 0] (hp m) (.inl (some (.double (upV (m 0 0 2) (m 0 0 1))))) (hp m) := by
  refine x_entry (by decide +kernel) mwX7_usedPart rfl (Nat.le_of_ble_eq_true rfl) ?_
  show X G MX7_usedPart (rmD 9) 0 [(0, rf G 38 0)] [] (hp m) 0 0 (.inl (some (.double (upV (m 0 0 2) (m 0 0 1))))) (hp m)
  refine x_aload_n (pc := 0) dX7_usedPart_0 0 rfl ?_
  refine y_getR (pc := 1) dX7_usedPart_1 flX7_15 rfl rfl rfl (by decide) ?_
  refine y_getR (pc := 4) (b := 0) dX7_usedPart_4 flX7_93 rfl rfl rfl (by decide) ?_
  refine y_getL (pc := 7) 1 dX7_usedPart_7 flX7_235 rfl rfl rfl (by decide) ?_
  refine x_lstore_n (pc := 10) (lv' := [(1, _), (0, _)]) dX7_usedPart_10 rfl (by decide) rfl ?_
  refine x_lload_n (pc := 11) dX7_usedPart_11 0 rfl ?_
  refine x_lconst (pc := 12) (z := 0) dX7_usedPart_12 (by decide) ?_
  refine x_lcmp (pc := 13) dX7_usedPart_13 (by unfold inL; omega) (by unfold inL; omega) ?_
  refine x_if_ne (pc := 14) 21 dX7_usedPart_14 (by decide) in_ae (fun q => ?_) (fun q => ?_)
  · have hz : m 0 0 1 ≠ 0 := fun z => q (by rw [if_neg (by omega), if_pos z])
    refine x_aload_n (pc := 21) dX7_usedPart_21 1 rfl ?_
    refine y_getR (pc := 22) dX7_usedPart_22 flX7_15 rfl rfl rfl (by decide) ?_
    refine y_getR (pc := 25) (b := 0) dX7_usedPart_25 flX7_93 rfl rfl rfl (by decide) ?_
    refine y_getL (pc := 28) 2 dX7_usedPart_28 flX7_239 rfl rfl rfl (by decide) ?_
    refine x_l2d (pc := 31) dX7_usedPart_31 ?_
    refine x_lload_n (pc := 32) dX7_usedPart_32 0 rfl ?_
    refine x_l2d (pc := 33) dX7_usedPart_33 ?_
    have e : FP.ddiv (FP.l2d (lI (m 0 0 2))) (FP.l2d (lI (m 0 0 1))) = upV (m 0 0 2) (m 0 0 1) := by
      unfold upV
      rw [if_neg hz, l2d_e (in_11 hu), l2d_e (in_11 ht)]
    refine x_ddiv (pc := 34) dX7_usedPart_34 (by rw [e]; exact upV_n hu ht) ?_
    refine x_top (v' := .double (upV (m 0 0 2) (m 0 0 1))) (by rw [e]) ?_
    exact x_dret (pc := 35) dX7_usedPart_35 rfl (Nat.zero_le _) (Nat.zero_le _)
  · have hz : m 0 0 1 = 0 := by
      by_cases g : 0 < m 0 0 1
      · rw [if_pos g] at q; omega
      · omega
    refine x_dconst0 (pc := 17) dX7_usedPart_17 ?_
    refine x_goto (pc := 18) 35 dX7_usedPart_18 (by decide) ?_
    refine x_top (v' := .double (upV (m 0 0 2) (m 0 0 1))) (by unfold upV; rw [if_pos hz]) ?_
    exact x_dret (pc := 35) dX7_usedPart_35 rfl (Nat.zero_le _) (Nat.zero_le _)
theorem Q_usedPart {G : GG} {m : Mem} (hu : 0 ≤ m 42 0 11 ∧ m 42 0 11 < 2147483648) (ht : 0 ≤ m 42 0 10 ∧ m 42 0 10 < 2147483648) : Ct G MX8_usedPart (rmD 9) [rf G 41 0] (hp m) (.inl (some (.double (upV (m 42 0 11) (m 42 0 10))))) (hp (thr m 0)) := by
  refine x_entry (by decide +kernel) mwX8_usedPart rfl (Nat.le_of_ble_eq_true rfl) ?_
  show X G MX8_usedPart (rmD 9) 0 [(0, rf G 41 0)] [] (hp m) 0 0 (.inl (some (.double (upV (m 42 0 11) (m 42 0 10))))) (hp (thr m 0))
  refine x_aload_n (pc := 0) dX8_usedPart_0 0 rfl ?_
  refine x_iconst (pc := 1) dX8_usedPart_1 ?_
  refine y_putI (pc := 2) 7 dX8_usedPart_2 fwX8_41 rfl rfl rfl (by decide) ?_
  refine x_aload_n (pc := 5) dX8_usedPart_5 0 rfl ?_
  refine y_getR (pc := 6) dX8_usedPart_6 flX8_9 rfl rfl rfl (by decide) ?_
  refine x_bipush (pc := 9) (z := 10) dX8_usedPart_9 (by decide +kernel) ?_
  refine y_iald (pc := 11) dX8_usedPart_11 rfl (by decide) (by omega) ?_
  refine x_top (v' := .int (iI (m 42 0 10))) (by rw [up3_k (by decide)]) ?_
  refine x_istore_n (pc := 12) (lv' := [(1, _), (0, _)]) dX8_usedPart_12 rfl (by decide) rfl ?_
  refine x_iload_n (pc := 13) dX8_usedPart_13 0 rfl ?_
  refine x_if_ne (pc := 14) 21 dX8_usedPart_14 (by decide) (in_11 ht) (fun q => ?_) (fun q => ?_)
  · refine x_aload_n (pc := 21) dX8_usedPart_21 1 rfl ?_
    refine y_getR (pc := 22) dX8_usedPart_22 flX8_9 rfl rfl rfl (by decide) ?_
    refine x_bipush (pc := 25) (z := 11) dX8_usedPart_25 (by decide +kernel) ?_
    refine y_iald (pc := 27) dX8_usedPart_27 rfl (by decide) (by omega) ?_
    refine x_top (v' := .int (iI (m 42 0 11))) (by rw [up3_k (by decide)]) ?_
    refine x_i2d (pc := 28) dX8_usedPart_28 ?_
    refine x_iload_n (pc := 29) dX8_usedPart_29 0 rfl ?_
    refine x_i2d (pc := 30) dX8_usedPart_30 ?_
    have e : FP.ddiv (FP.i2d (iI (m 42 0 11))) (FP.i2d (iI (m 42 0 10))) = upV (m 42 0 11) (m 42 0 10) := by
      unfold upV
      rw [if_neg q, i2d_e (in_11 hu), i2d_e (in_11 ht)]
    refine x_ddiv (pc := 31) dX8_usedPart_31 (by rw [e]; exact upV_n hu ht) ?_
    refine x_top (v' := .double (upV (m 42 0 11) (m 42 0 10))) (by rw [e]) ?_
    exact x_dret (pc := 32) dX8_usedPart_32 rfl (Nat.zero_le _) (Nat.zero_le _)
  · refine x_dconst0 (pc := 17) dX8_usedPart_17 ?_
    refine x_goto (pc := 18) 32 dX8_usedPart_18 (by decide) ?_
    refine x_top (v' := .double (upV (m 42 0 11) (m 42 0 10))) (by unfold upV; rw [if_pos q]) ?_
    exact x_dret (pc := 32) dX8_usedPart_32 rfl (Nat.zero_le _) (Nat.zero_le _)
theorem fuV_n {u t : Int} (hu : 0 ≤ u ∧ u < 16777216) (ht : 0 < t ∧ t < 16777216) : vf_n32 (fuV u t) := n_ff hu ht
theorem P_fullness {G : GG} {m : Mem} (hP : BP m 0) (hB : BS m 0 0) {a0 : Int} (ha0 : inI a0) (h0 : 0 ≤ a0 ∧ a0 < m 22 0 2) : Ct G MX7_fullness (rmD 9) [rf G 38 0, .int (iI a0)] (hp m) (.inl (some (.float (fuV (m 3 0 a0) (roomC m 0 0 a0))))) (hp m) := by
  refine x_entry (by decide +kernel) mwX7_fullness rfl (Nat.le_of_ble_eq_true rfl) ?_
  show X G MX7_fullness (rmD 9) 0 [(0, rf G 38 0), (1, .int (iI a0))] [] (hp m) 0 0 (.inl (some (.float (fuV (m 3 0 a0) (roomC m 0 0 a0))))) (hp m)
  have n8 := hP.2.2.1
  have pq := BS_pf hP hB h0.1 h0.2
  have rb := roomC_b pq
  have p23 := pq.2.1
  have b3 := (hB.2.1 a0 h0.1 h0.2).1
  refine x_iload_n (pc := 0) dX7_fullness_0 1 rfl ?_
  refine x_aload_n (pc := 1) dX7_fullness_1 0 rfl ?_
  refine y_getR (pc := 2) dX7_fullness_2 flX7_15 rfl rfl rfl (by decide) ?_
  refine y_getR (pc := 5) (b := 0) dX7_fullness_5 flX7_21 rfl rfl rfl (by decide) ?_
  refine y_getI (pc := 8) 2 dX7_fullness_8 flX7_74 rfl rfl rfl (by decide) ?_
  refine x_callS (pc := 11) _ dX7_fullness_11 (ct_ckI ha0 (by unfold inI; omega) h0) lkX7_123 rfl (by decide) (Nat.le_of_ble_eq_true rfl) rfl ?_
  refine x_aload_n (pc := 14) dX7_fullness_14 0 rfl ?_
  refine y_getR (pc := 15) dX7_fullness_15 flX7_15 rfl rfl rfl (by decide) ?_
  refine x_iload_n (pc := 18) dX7_fullness_18 1 rfl ?_
  refine x_callV (pc := 19) _ dX7_fullness_19 (ct_roomOf (w := 0) (by decide) _ pq) lkX7_131 rfl rfl rfl rfl (mem_dom0 (by decide) (by decide)) (by decide) (Nat.le_of_ble_eq_true rfl) rfl ?_
  refine x_istore_n (pc := 22) (lv' := [(2, _), (0, _), (1, _)]) dX7_fullness_22 rfl (by decide) rfl ?_
  refine x_iload_n (pc := 23) dX7_fullness_23 0 rfl ?_
  refine x_iconst (pc := 24) dX7_fullness_24 ?_
  refine x_icmp_ge (pc := 25) 32 dX7_fullness_25 (by decide) (show inI (roomC m 0 0 a0) by unfold inI; omega) (by unfold inI; decide) (fun _ => ?_) (fun q => absurd rb.1 q)
  refine x_aload_n (pc := 32) dX7_fullness_32 1 rfl ?_
  refine y_getR (pc := 33) dX7_fullness_33 flX7_15 rfl rfl rfl (by decide) ?_
  refine y_getR (pc := 36) (b := 0) dX7_fullness_36 flX7_93 rfl rfl rfl (by decide) ?_
  refine y_getR (pc := 39) dX7_fullness_39 flX7_135 rfl rfl rfl (by decide) ?_
  refine x_iload_n (pc := 42) dX7_fullness_42 2 rfl ?_
  refine y_iald (pc := 43) dX7_fullness_43 rfl (by decide) (by omega) ?_
  refine x_i2f (pc := 44) dX7_fullness_44 ?_
  refine x_iload_n (pc := 45) dX7_fullness_45 0 rfl ?_
  refine x_i2f (pc := 46) dX7_fullness_46 ?_
  refine x_fdiv (pc := 47) dX7_fullness_47 (fuV_n (u := m 3 0 a0) (t := roomC m 0 0 a0) (by omega) (by omega)) ?_
  exact x_fret (pc := 48) dX7_fullness_48 rfl (Nat.zero_le _) (Nat.zero_le _)
theorem Px_fullness_0 {G : GG} {m : Mem} (hP : BP m 0) {a0 : Int} (ha0 : inI a0) (h0 : ¬ (0 ≤ a0 ∧ a0 < m 22 0 2)) : Ct G MX7_fullness (rmE 1) [rf G 38 0, .int (iI a0)] (hp m) (.inr ioE) (hp m) := by
  refine x_entry (by decide +kernel) mwX7_fullness rfl (Nat.le_of_ble_eq_true rfl) ?_
  show X G MX7_fullness (rmE 1) 0 [(0, rf G 38 0), (1, .int (iI a0))] [] (hp m) 0 0 (.inr ioE) (hp m)
  have n8 := hP.2.2.1
  refine x_iload_n (pc := 0) dX7_fullness_0 1 rfl ?_
  refine x_aload_n (pc := 1) dX7_fullness_1 0 rfl ?_
  refine y_getR (pc := 2) dX7_fullness_2 flX7_15 rfl rfl rfl (by decide) ?_
  refine y_getR (pc := 5) (b := 0) dX7_fullness_5 flX7_21 rfl rfl rfl (by decide) ?_
  refine y_getI (pc := 8) 2 dX7_fullness_8 flX7_74 rfl rfl rfl (by decide) ?_
  exact x_callSX (pc := 11) _ dX7_fullness_11 (ct_ckIx ha0 (by unfold inI; omega) h0) lkX7_123 rfl rfl (by decide) (Nat.le_of_ble_eq_true rfl) rfl
theorem Q_fullness {G : GG} {m : Mem} {N : Int → Int} (hF : NF N) {a0 : Int} (ha0 : inI a0) (h0 : 0 ≤ a0 ∧ a0 < N 3) (hc : 0 ≤ N (30 + 7 * a0 + 1) ∧ N (30 + 7 * a0 + 1) < 16777216) : Ct G MX8_fullness (rmD 9) [rf G 41 0, .int (iI a0)] (hp (sr m N)) (.inl (some (.float (fuV (N (30 + 7 * a0 + 1)) (roomN N a0))))) (hp (sr (thr m 0) N)) := by
  refine x_entry (by decide +kernel) mwX8_fullness rfl (Nat.le_of_ble_eq_true rfl) ?_
  show X G MX8_fullness (rmD 9) 0 [(0, rf G 41 0), (1, .int (iI a0))] [] (hp (sr m N)) 0 0 (.inl (some (.float (fuV (N (30 + 7 * a0 + 1)) (roomN N a0))))) (hp (sr (thr m 0) N))
  have n8 := hF.1
  have pq := (hF.2.2.2.2.2.1 a0 h0.1 h0.2).1
  have rb := roomN_b pq
  have p0 := pq.2.1
  refine x_aload_n (pc := 0) dX8_fullness_0 0 rfl ?_
  refine x_aload_n (pc := 1) dX8_fullness_1 0 rfl ?_
  refine x_iload_n (pc := 2) dX8_fullness_2 1 rfl ?_
  refine x_callV (pc := 3) _ dX8_fullness_3 (mq_isPack a0 ha0 (by omega)) lkX8_234 rfl rfl rfl rfl (mem_dom0 (by decide) (by decide)) (by decide) (Nat.le_of_ble_eq_true rfl) rfl ?_
  refine x_iconst (pc := 6) dX8_fullness_6 ?_
  refine x_callV (pc := 7) _ dX8_fullness_7 (mq_isThrown (b := 0 ≤ a0 ∧ a0 < N 3) 1) lkX8_227 rfl rfl rfl rfl (mem_dom0 (by decide) (by decide)) (by decide) (Nat.le_of_ble_eq_true rfl) rfl ?_
  refine x_nil (m' := sr (thr m 0) N) (by rw [if_pos h0]) ?_
  refine x_ifb_eq (pc := 10) 17 dX8_fullness_10 (by decide) (fun _ => ?_) (fun c_10 => absurd h0 c_10)
  refine x_aload_n (pc := 17) dX8_fullness_17 0 rfl ?_
  refine x_iload_n (pc := 18) dX8_fullness_18 1 rfl ?_
  refine x_iconst (pc := 19) dX8_fullness_19 ?_
  refine x_callV (pc := 20) _ dX8_fullness_20 (mq_ofPack (a0) 1 (by omega)) lkX8_189 rfl rfl rfl rfl (mem_dom0 (by decide) (by decide)) (by decide) (Nat.le_of_ble_eq_true rfl) rfl ?_
  refine x_i2f (pc := 23) dX8_fullness_23 ?_
  refine x_aload_n (pc := 24) dX8_fullness_24 0 rfl ?_
  refine x_iload_n (pc := 25) dX8_fullness_25 1 rfl ?_
  refine x_callV (pc := 26) _ dX8_fullness_26 (mq_roomOf a0 pq) lkX8_199 rfl rfl rfl rfl (mem_dom0 (by decide) (by decide)) (by decide) (Nat.le_of_ble_eq_true rfl) rfl ?_
  refine x_i2f (pc := 29) dX8_fullness_29 ?_
  refine x_fdiv (pc := 30) dX8_fullness_30 (fuV_n (u := N (30 + 7 * a0 + 1)) (t := roomN N a0) hc (by omega)) ?_
  exact x_fret (pc := 31) dX8_fullness_31 rfl (Nat.zero_le _) (Nat.zero_le _)
theorem Qx_fullness_0 {G : GG} {m : Mem} {N : Int → Int} (hF : NF N) {a0 : Int} (ha0 : inI a0) (h0 : ¬ (0 ≤ a0 ∧ a0 < N 3)) : Ct G MX8_fullness (rmD 9) [rf G 41 0, .int (iI a0)] (hp (sr m N)) (.inl (some (.float FP.fconst0))) (hp (sr (thr m 1) N)) := by
  refine x_entry (by decide +kernel) mwX8_fullness rfl (Nat.le_of_ble_eq_true rfl) ?_
  show X G MX8_fullness (rmD 9) 0 [(0, rf G 41 0), (1, .int (iI a0))] [] (hp (sr m N)) 0 0 (.inl (some (.float FP.fconst0))) (hp (sr (thr m 1) N))
  have n8 := hF.1
  refine x_aload_n (pc := 0) dX8_fullness_0 0 rfl ?_
  refine x_aload_n (pc := 1) dX8_fullness_1 0 rfl ?_
  refine x_iload_n (pc := 2) dX8_fullness_2 1 rfl ?_
  refine x_callV (pc := 3) _ dX8_fullness_3 (mq_isPack a0 ha0 (by omega)) lkX8_234 rfl rfl rfl rfl (mem_dom0 (by decide) (by decide)) (by decide) (Nat.le_of_ble_eq_true rfl) rfl ?_
  refine x_iconst (pc := 6) dX8_fullness_6 ?_
  refine x_callV (pc := 7) _ dX8_fullness_7 (mq_isThrown (b := 0 ≤ a0 ∧ a0 < N 3) 1) lkX8_227 rfl rfl rfl rfl (mem_dom0 (by decide) (by decide)) (by decide) (Nat.le_of_ble_eq_true rfl) rfl ?_
  refine x_nil (m' := sr (thr m 1) N) (by rw [if_neg h0]) ?_
  refine x_ifb_eq (pc := 10) 17 dX8_fullness_10 (by decide) (fun c_10 => absurd h0 c_10) (fun _ => ?_)
  refine x_fconst0 (pc := 13) dX8_fullness_13 ?_
  refine x_goto (pc := 14) 31 dX8_fullness_14 (by decide) ?_
  exact x_fret (pc := 31) dX8_fullness_31 rfl (Nat.zero_le _) (Nat.zero_le _)
/-- the helper -/
theorem hq_fullness {G : GG} {m m1 : Mem} {a0 : Int} {v : UInt32} (hv : vf_n32 v) (hc : Ct G MX7_fullness (rmD 9) [rf G 38 0, .int (iI a0)] (hp m) (.inl (some (.float v))) (hp m1)) : CtW G ML_fullness ML_fullness_h (rmD 10) [rf G 38 0, .int (iI a0), rf G 50 0] (hp m) (.inl (some (.int (iI 0)))) (hp (up3 m1 50 0 0 (FP.f2d v).toNat)) := by
  refine x_entryW (by decide +kernel) mwL_fullness rfl (Nat.le_of_ble_eq_true rfl) ?_
  show X G ML_fullness (rmD 10) 0 [(0, rf G 38 0), (1, .int (iI a0)), (2, rf G 50 0)] [] (hp m) 0 0 (.inl (some (.int (iI 0)))) (hp (up3 m1 50 0 0 (FP.f2d v).toNat))
  refine x_aload_n (pc := 0) dL_fullness_0 2 rfl ?_
  refine x_iconst (pc := 1) dL_fullness_1 ?_
  refine x_aload_n (pc := 2) dL_fullness_2 0 rfl ?_
  refine x_iload_n (pc := 3) dL_fullness_3 1 rfl ?_
  refine x_callV (pc := 4) _ dL_fullness_4 hc lkL_41 rfl rfl rfl rfl (mem_dom0 (by decide) (by decide)) (by decide) (Nat.le_of_ble_eq_true rfl) rfl ?_
  refine x_f2d (pc := 7) dL_fullness_7 (f2d_n hv) ?_
  refine y_dast (pc := 8) dL_fullness_8 rfl (by decide) (by omega) ?_
  refine x_goto (pc := 9) 15 dL_fullness_9 (by decide) ?_
  refine x_iconst (pc := 15) dL_fullness_15 ?_
  exact y_iret (pc := 16) dL_fullness_16 rfl rfl rfl
theorem hq_fullness_ioE {G : GG} {m m1 : Mem} {a0 : Int} (hc : Ct G MX7_fullness (rmE 1) [rf G 38 0, .int (iI a0)] (hp m) (.inr ioE) (hp m1)) : CtW G ML_fullness ML_fullness_h (rmE 2) [rf G 38 0, .int (iI a0), rf G 50 0] (hp m) (.inl (some (.int (iI 1)))) (hp m1) := by
  refine x_entryW (by decide +kernel) mwL_fullness rfl (Nat.le_of_ble_eq_true rfl) ?_
  show X G ML_fullness (rmE 2) 0 [(0, rf G 38 0), (1, .int (iI a0)), (2, rf G 50 0)] [] (hp m) 0 0 (.inl (some (.int (iI 1)))) (hp m1)
  refine x_aload_n (pc := 0) dL_fullness_0 2 rfl ?_
  refine x_iconst (pc := 1) dL_fullness_1 ?_
  refine x_aload_n (pc := 2) dL_fullness_2 0 rfl ?_
  refine x_iload_n (pc := 3) dL_fullness_3 1 rfl ?_
  refine x_callVC (pc := 4) _ dL_fullness_4 (hc) lkL_41 rfl rfl rfl rfl (mem_dom0 (by decide) (by decide)) (by decide) (Nat.le_of_ble_eq_true rfl) rfl [] _ _ rfl (fun z hz => nomatch hz) (by decide) (by decide) clIO (by decide) (fun q => ?_)
  refine x_astore_n (pc := 12) (lv' := [(3, _), (0, _), (1, _), (2, _)]) dL_fullness_12 rfl (by decide) rfl ?_
  refine x_iconst (pc := 13) dL_fullness_13 ?_
  exact y_iret (pc := 14) dL_fullness_14 rfl rfl rfl
/-- the law's two cases of floats -/
theorem cmpv64 {a : UInt64} (h : vf_n64 a) (op : CmpOp) : Value.int (Op.cmpValue (FP.dcmp a a) op) = Value.int (iI 0) := by
  rw [cmp64 h]; rfl
theorem law_13 {G : GG} {m : Mem} {K : Nat} {c0 s0 : Nat} {i : Int} (h : IV m K) (hK : K ≤ 600) (hi : 0 ≤ i ∧ i + 5 ≤ (gV G 8 : Nat)) (hL : gV G 8 < 2147483648) (hc : c0 ≤ 400000) (hs : s0 ≤ 6000000) : LST G m K c0 s0 i 880 := by
  have tb := tot_b h.1 hK
  have r := h.1.2.2.2.1.1
  have ce := h.1.2.2.2.2.2.1
  have hP := h.1.1
  have hB := h.1.2.1
  have b1 := tb.2 0 (by decide) (by decide)
  have b2 := tb.2 1 (by decide) (by decide)
  have e1 : m 42 0 10 = m 0 0 1 := r.2.1
  have e2 : m 42 0 11 = m 0 0 2 := r.2.2.1
  have n8 := hP.2.2.1
  have n12 := hP.2.2.2.2.2.1
  have s9 := (sm_ge (f := m 9 0) (m 22 0 5).toNat (fun i a b => ce.2.2.2 i a (by omega))).1
  have s3 := (sm_ge (f := m 3 0) (m 22 0 2).toNat (fun i a b => (hB.2.1 i a (by omega)).1.1)).1
  have c1 := ce.1
  have c2 := ce.2.1
  have c3 := ce.2.2.1
  have b1' : inI (m 42 0 10) := b1
  have b2' : inI (m 42 0 11) := b2
  unfold inI at b1' b2'
  have hv := upV_n (u := m 0 0 2) (t := m 0 0 1) (by omega) (by omega)
  refine ⟨_, (h.k (Kp_thr (z := 0))).more (by omega), fun res h' kk => ?_⟩
  unfold lvL at kk ⊢
  refine x_aload_n (pc := 880) dL_law_880 2 rfl ?_
  refine l_callV (pc := 881) _ dL_law_881 (.inl (.inl rfl)) (P_usedPart (by omega) (by omega)) lkL_188 rfl rfl rfl rfl (mem_dom0 (by decide) (by decide)) (Nat.le_of_ble_eq_true rfl) (by decide) rfl (by omega) (by omega) ?_
  refine x_dstore (pc := 884) (lv' := [(6, _), (5, _), (0, _), (1, _), (2, _), (3, _), (4, _)]) dL_law_884 (by decide) rfl ?_
  refine x_aload_n (pc := 886) dL_law_886 4 rfl ?_
  refine l_callV (pc := 887) _ dL_law_887 (.inl (.inl rfl)) (Q_usedPart (by omega) (by omega)) lkL_192 rfl rfl rfl rfl (mem_dom0 (by decide) (by decide)) (Nat.le_of_ble_eq_true rfl) (by decide) rfl (by omega) (by omega) ?_
  rw [e1, e2]
  refine x_dstore (pc := 890) (lv' := [(8, _), (6, _), (5, _), (0, _), (1, _), (2, _), (3, _), (4, _)]) dL_law_890 (by decide) rfl ?_
  refine x_dload (pc := 892) dL_law_892 1 rfl ?_
  refine x_dload (pc := 894) dL_law_894 0 rfl ?_
  refine x_dcmp (pc := 896) dL_law_896 ?_
  refine x_top (cmpv64 hv _) ?_
  refine x_if_eq (pc := 897) 918 dL_law_897 (by decide) in_01 (fun _ => ?_) (fun q => absurd rfl q)
  refine x_goto (pc := 918) 2773 dL_law_918 (by decide) ?_
  exact x_lv [2, 3, 4, 5, 6, 7] rfl (x_widen (by omega) (by omega) kk)
theorem law_14 {G : GG} {m : Mem} {K : Nat} {c0 s0 : Nat} {i : Int} (h : IV m K) (hK : K ≤ 600) (hi : 0 ≤ i ∧ i + 5 ≤ (gV G 8 : Nat)) (hL : gV G 8 < 2147483648) (hc : c0 ≤ 400000) (hs : s0 ≤ 6000000) : LST G m K c0 s0 i 921 := by
  have hP := h.1.1
  have hB := h.1.2.1
  have hR := h.1.2.2.1
  have hS := h.1.2.2.2.1
  have hF := h.nf
  have ha0 : inI (sx G (i + 1).toNat) := inI_of _
  have E3 : m 42 0 3 = m 22 0 2 := hR.1.2.2.1
  by_cases h0 : 0 ≤ sx G (i + 1).toNat ∧ sx G (i + 1).toNat < m 22 0 2
  · have pq := BS_pf hP hB h0.1 h0.2
    have rb := roomC_b pq
    have p23 := pq.2.1
    have b3 := (hB.2.1 _ h0.1 h0.2).1
    have hv : vf_n32 (fuV (m 3 0 (sx G (i + 1).toNat)) (roomC m 0 0 (sx G (i + 1).toNat))) := fuV_n (by omega) (by omega)
    have e3 := (hS.2.1 _ h0.1 h0.2).1
    have er := R_room hR hS h0.1 h0.2
    have hd := f2d_n hv
    have k : Kp m (up3 m 50 0 0 (FP.f2d (fuV (m 3 0 (sx G (i + 1).toNat)) (roomC m 0 0 (sx G (i + 1).toNat)))).toNat) := Kp_k (fun _ _ _ a => up3_k a)
    have e42 : (up3 m 50 0 0 (FP.f2d (fuV (m 3 0 (sx G (i + 1).toNat)) (roomC m 0 0 (sx G (i + 1).toNat)))).toNat) 42 0 = m 42 0 := up3_k (k := 50) (k' := 42) (by decide) ▸ rfl
    have Q := Q_fullness (G := G) (m := up3 m 50 0 0 (FP.f2d (fuV (m 3 0 (sx G (i + 1).toNat)) (roomC m 0 0 (sx G (i + 1).toNat)))).toNat) hF ha0 (by omega) (by rw [e3]; omega)
    rw [e3, er, sr_of e42] at Q
    have e7 : sr (thr (up3 m 50 0 0 (FP.f2d (fuV (m 3 0 (sx G (i + 1).toNat)) (roomC m 0 0 (sx G (i + 1).toNat)))).toNat) 0) (m 42 0) 41 0 7 = 0 := by
      rw [sr_k (by decide)]; unfold thr; rw [up3_at]
    have e50 : sr (thr (up3 m 50 0 0 (FP.f2d (fuV (m 3 0 (sx G (i + 1).toNat)) (roomC m 0 0 (sx G (i + 1).toNat)))).toNat) 0) (m 42 0) 50 0 0 = (FP.f2d (fuV (m 3 0 (sx G (i + 1).toNat)) (roomC m 0 0 (sx G (i + 1).toNat)))).toNat := by
      rw [sr_k (by decide)]; unfold thr; rw [up3_k (by decide), up3_at]
    have hI : IV (sr (thr (up3 m 50 0 0 (FP.f2d (fuV (m 3 0 (sx G (i + 1).toNat)) (roomC m 0 0 (sx G (i + 1).toNat)))).toNat) 0) (m 42 0)) (K + 1) := by
      rw [sr_of (by unfold thr; rw [up3_k (by decide)]; exact e42)]
      exact (h.k (k.t Kp_thr)).more (by omega)
    refine ⟨_, hI, fun res h' kk => ?_⟩
    unfold lvL at kk ⊢
    refine x_aload_n (pc := 921) dL_law_921 2 rfl ?_
    refine x_aload_n (pc := 922) dL_law_922 1 rfl ?_
    refine x_iload (pc := 923) dL_law_923 0 rfl ?_
    refine x_iconst (pc := 925) dL_law_925 ?_
    refine x_iadd (pc := 926) dL_law_926 ?_
    refine x_sld (pc := 927) (a := (i + 1).toNat) dL_law_927 (by omega) (by omega) hL ?_
    refine x_aload (pc := 928) dL_law_928 5 rfl ?_
    refine l_callW (pc := 930) _ dL_law_930 (hq_fullness hv (P_fullness hP hB ha0 h0)) lsL_193 rfl (Nat.le_of_ble_eq_true rfl) (by decide) rfl (by omega) (by omega) ?_
    refine x_istore (pc := 933) (lv' := [(6, _), (5, _), (0, _), (1, _), (2, _), (3, _), (4, _)]) dL_law_933 (by decide) rfl ?_
    refine x_aload_n (pc := 935) dL_law_935 4 rfl ?_
    refine x_aload_n (pc := 936) dL_law_936 2 rfl ?_
    refine x_iload (pc := 937) dL_law_937 1 rfl ?_
    refine x_iconst (pc := 939) dL_law_939 ?_
    refine x_iadd (pc := 940) dL_law_940 ?_
    refine x_sld (pc := 941) (a := (i + 1).toNat) dL_law_941 (by omega) (by omega) hL ?_
    refine l_callV (pc := 942) _ dL_law_942 (.inl (.inl rfl)) Q lkL_196 rfl rfl rfl rfl (mem_dom0 (by decide) (by decide)) (Nat.le_of_ble_eq_true rfl) (by decide) rfl (by omega) (by omega) ?_
    refine x_fstore (pc := 945) (lv' := [(7, _), (6, _), (5, _), (0, _), (1, _), (2, _), (3, _), (4, _)]) dL_law_945 (by decide) rfl ?_
    refine x_aload_n (pc := 947) dL_law_947 5 rfl ?_
    refine l_callV (pc := 948) _ dL_law_948 (.inr rfl) (ct_thrown e7) lkL_158 rfl rfl rfl rfl (mem_dom0 (by decide) (by decide)) (Nat.le_of_ble_eq_true rfl) (by decide) rfl (by omega) (by omega) ?_
    refine x_iload (pc := 951) dL_law_951 1 rfl ?_
    refine x_icmp_eq (pc := 953) 958 dL_law_953 (by decide) in_01 in_01 (fun _ => ?_) (fun q => absurd rfl q)
    refine x_iload (pc := 958) dL_law_958 1 rfl ?_
    refine x_if_ne (pc := 960) 996 dL_law_960 (by decide) in_01 (fun q => absurd rfl q) (fun _ => ?_)
    refine x_aload (pc := 963) dL_law_963 7 rfl ?_
    refine x_iconst (pc := 965) dL_law_965 ?_
    refine y_dald (pc := 966) dL_law_966 rfl (by decide) ⟨by decide, by decide⟩ ?_
    refine x_top (v' := .double (FP.f2d (fuV (m 3 0 (sx G (i + 1).toNat)) (roomC m 0 0 (sx G (i + 1).toNat))))) (by rw [e50, Int.toNat_natCast, UInt64.ofNat_toNat]) ?_
    refine x_fload (pc := 967) dL_law_967 0 rfl ?_
    refine x_f2d (pc := 969) dL_law_969 hd ?_
    refine x_dcmp (pc := 970) dL_law_970 ?_
    refine x_top (cmpv64 hd _) ?_
    refine x_if_eq (pc := 971) 996 dL_law_971 (by decide) in_01 (fun _ => ?_) (fun q => absurd rfl q)
    refine x_goto (pc := 996) 2773 dL_law_996 (by decide) ?_
    exact x_lv [2, 3, 4, 5, 6, 7] rfl (x_widen (by omega) (by omega) kk)
  · have Q := Qx_fullness_0 (G := G) (m := m) hF ha0 (by omega)
    rw [sr_self] at Q
    refine ⟨_, (fin_x h 1).2, fun res h' kk => ?_⟩
    unfold lvL at kk ⊢
    refine x_aload_n (pc := 921) dL_law_921 2 rfl ?_
    refine x_aload_n (pc := 922) dL_law_922 1 rfl ?_
    refine x_iload (pc := 923) dL_law_923 0 rfl ?_
    refine x_iconst (pc := 925) dL_law_925 ?_
    refine x_iadd (pc := 926) dL_law_926 ?_
    refine x_sld (pc := 927) (a := (i + 1).toNat) dL_law_927 (by omega) (by omega) hL ?_
    refine x_aload (pc := 928) dL_law_928 5 rfl ?_
    refine l_callE (pc := 930) _ dL_law_930 (hq_fullness_ioE (Px_fullness_0 hP ha0 h0)) lsL_193 rfl (Nat.le_of_ble_eq_true rfl) (by decide) rfl (by omega) (by omega) ?_
    refine x_istore (pc := 933) (lv' := [(6, _), (5, _), (0, _), (1, _), (2, _), (3, _), (4, _)]) dL_law_933 (by decide) rfl ?_
    refine x_aload_n (pc := 935) dL_law_935 4 rfl ?_
    refine x_aload_n (pc := 936) dL_law_936 2 rfl ?_
    refine x_iload (pc := 937) dL_law_937 1 rfl ?_
    refine x_iconst (pc := 939) dL_law_939 ?_
    refine x_iadd (pc := 940) dL_law_940 ?_
    refine x_sld (pc := 941) (a := (i + 1).toNat) dL_law_941 (by omega) (by omega) hL ?_
    refine l_callV (pc := 942) _ dL_law_942 (.inl (.inl rfl)) Q lkL_196 rfl rfl rfl rfl (mem_dom0 (by decide) (by decide)) (Nat.le_of_ble_eq_true rfl) (by decide) rfl (by omega) (by omega) ?_
    refine x_fstore (pc := 945) (lv' := [(7, _), (6, _), (5, _), (0, _), (1, _), (2, _), (3, _), (4, _)]) dL_law_945 (by decide) rfl ?_
    refine x_aload_n (pc := 947) dL_law_947 5 rfl ?_
    refine l_callV (pc := 948) _ dL_law_948 (.inr rfl) (ct_thrown (fin_x h 1).1) lkL_158 rfl rfl rfl rfl (mem_dom0 (by decide) (by decide)) (Nat.le_of_ble_eq_true rfl) (by decide) rfl (by omega) (by omega) ?_
    refine x_iload (pc := 951) dL_law_951 1 rfl ?_
    refine x_icmp_eq (pc := 953) 958 dL_law_953 (by decide) (in_12 (.inl rfl)) (in_12 (.inl rfl)) (fun _ => ?_) (fun q => absurd rfl q)
    refine x_iload (pc := 958) dL_law_958 1 rfl ?_
    refine x_if_ne (pc := 960) 996 dL_law_960 (by decide) (in_12 (.inl rfl)) (fun _ => ?_) (fun q => by exfalso; omega)
    refine x_goto (pc := 996) 2773 dL_law_996 (by decide) ?_
    exact x_lv [2, 3, 4, 5, 6, 7] rfl (x_widen (by omega) (by omega) kk)
