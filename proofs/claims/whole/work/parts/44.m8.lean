theorem sr_keep {M : Mem} {N : Int → Int} (h : M 42 0 = N) : M = sr M N := by rw [← h, sr_self]
theorem sr_42 {m : Mem} {N : Int → Int} : sr m N 42 0 = N := by
  funext j
  unfold sr
  rw [if_pos ⟨rfl, rfl⟩]
theorem keX_42 {m : Mem} {pm : Int} : keX m pm 42 = m 42 := by
  unfold keX
  funext i j
  rw [up3_apply, if_neg (by omega), cpX_k (by decide)]
theorem keM_42 {m : Mem} : keM m 42 = m 42 := by
  unfold keM
  split
  · rw [keX_42]
    funext i j
    rw [up3_apply, if_neg (by omega), shX_k (by decide)]
  · exact keX_42
/-- the model's memory behind 'keeps' -/
def KM (m : Mem) (N : Int → Int) : Mem := keM (sr m N)
theorem mq_keepsN {G : GG} {m : Mem} {N : Int → Int} (hm : 0 ≤ m 41 0 6 ∧ m 41 0 6 ≤ 8) : Ct G MX8_keeps (rmD 1) [rf G 41 0] (hp (sr m N)) (.inl none) (hp (sr (KM m N) N)) := by
  have h := mq_keeps (G := G) (m := sr m N) hm
  have e : sr (KM m N) N = keM (sr m N) := (sr_keep (by show keM (sr m N) 42 0 = N; rw [keM_42]; exact sr_42)).symm
  rw [e]
  exact h
theorem thr_6 {m : Mem} {k : Int} : thr m k 41 0 6 = m 41 0 6 := up3_off (by decide)
def zeN (N : Int → Int) (l w : Int) : Nat → Int → Int
  | 0 => N
  | n + 1 => zeN (upN N (318 + 7 * l + w) 0) l (w + 1) n
def ldN3 (N : Int → Int) (c x : Int) : Int → Int := upN (upN (zeN N (N 9) 0 7) (318 + 7 * N 9 + 0) c) (318 + 7 * N 9 + 1) x
def ldN4 (N : Int → Int) (c x k : Int) : Int → Int := upN (ldN3 N c x) (318 + 7 * N 9 + 6) (ldN3 N c x 2 + k)
def ldN (N : Int → Int) (c x k : Int) : Int → Int := upN (ldN4 N c x k) 9 (ldN4 N c x k 9 + 1)
theorem lp_lends {G : GG} {m : Mem} {N0 : Int → Int} (c x k : Int) (hl : 0 ≤ N0 9 ∧ N0 9 < 16) : ∀ (n : Nat) (N : Int → Int) (w : Int), 0 ≤ w → w + n = 7 → zeN N0 (N0 9) 0 7 = zeN N (N0 9) w n → X G MX8_lends (rmD 2) 12 [(5, .int (iI w)), (0, rf G 41 0), (1, .int (iI c)), (2, .int (iI x)), (3, .int (iI k)), (4, .int (iI (N0 9)))] [] (hp (sr m N)) 0 0 (.inl (some (.int (iI (N0 9))))) (hp (sr m (ldN N0 c x k))) := by
  intro n
  induction n with
  | zero =>
    intro N w h0 h1 h9
    refine x_iload (pc := 12) dX8_lends_12 0 rfl ?_
    refine x_bipush (pc := 14) (z := 7) dX8_lends_14 (by decide) ?_
    refine x_icmp_ge (pc := 16) 34 dX8_lends_16 (by decide) (by unfold inI; omega) (by unfold inI; omega) (fun c_16 => ?_) (fun c_16 => (by exfalso; omega))
    have e9 : zeN N0 (N0 9) 0 7 = N := h9
    refine x_nil (m' := sr m (zeN N0 (N0 9) 0 7)) (by rw [e9]) ?_
    refine x_aload_n (pc := 34) dX8_lends_34 1 rfl ?_
    refine x_iload (pc := 35) dX8_lends_35 5 rfl ?_
    refine x_iconst (pc := 37) dX8_lends_37 ?_
    refine x_iload_n (pc := 38) dX8_lends_38 2 rfl ?_
    refine x_callV (pc := 39) _ dX8_lends_39 (mq_setsLoan (N0 9) 0 (c) (by omega)) lkX8_318 rfl rfl rfl rfl (mem_dom0 (by decide) (by decide)) (by decide) (Nat.le_of_ble_eq_true rfl) rfl ?_
    refine x_aload_n (pc := 42) dX8_lends_42 1 rfl ?_
    refine x_iload (pc := 43) dX8_lends_43 5 rfl ?_
    refine x_iconst (pc := 45) dX8_lends_45 ?_
    refine x_iload_n (pc := 46) dX8_lends_46 3 rfl ?_
    refine x_callV (pc := 47) _ dX8_lends_47 (mq_setsLoan (N0 9) 1 (x) (by omega)) lkX8_318 rfl rfl rfl rfl (mem_dom0 (by decide) (by decide)) (by decide) (Nat.le_of_ble_eq_true rfl) rfl ?_
    refine x_nil (m' := sr m (ldN3 N0 c x)) rfl ?_
    refine x_aload_n (pc := 50) dX8_lends_50 1 rfl ?_
    refine x_iload (pc := 51) dX8_lends_51 5 rfl ?_
    refine x_bipush (pc := 53) (z := 6) dX8_lends_53 (by decide) ?_
    refine x_aload_n (pc := 55) dX8_lends_55 1 rfl ?_
    refine y_getR (pc := 56) dX8_lends_56 flX8_9 rfl rfl rfl (by decide) ?_
    refine x_iconst (pc := 59) dX8_lends_59 ?_
    refine y_nald (pc := 60) dX8_lends_60 (by omega) ?_
    refine x_iload_n (pc := 61) dX8_lends_61 4 rfl ?_
    refine x_iadd (pc := 62) dX8_lends_62 ?_
    refine x_callV (pc := 63) _ dX8_lends_63 (mq_setsLoan (N0 9) 6 (ldN3 N0 c x 2 + k) (by omega)) lkX8_318 rfl rfl rfl rfl (mem_dom0 (by decide) (by decide)) (by decide) (Nat.le_of_ble_eq_true rfl) rfl ?_
    refine x_nil (m' := sr m (ldN4 N0 c x k)) rfl ?_
    refine x_aload_n (pc := 66) dX8_lends_66 1 rfl ?_
    refine y_getR (pc := 67) dX8_lends_67 flX8_9 rfl rfl rfl (by decide) ?_
    refine x_bipush (pc := 70) (z := 9) dX8_lends_70 (by decide) ?_
    refine x_dup2 (pc := 72) dX8_lends_72 rfl rfl ?_
    refine y_nald (pc := 73) dX8_lends_73 (by omega) ?_
    refine x_iconst (pc := 74) dX8_lends_74 ?_
    refine x_iadd (pc := 75) dX8_lends_75 ?_
    refine y_nast (pc := 76) dX8_lends_76 (by omega) ?_
    refine x_iload (pc := 77) dX8_lends_77 5 rfl ?_
    exact y_iret (pc := 79) dX8_lends_79 rfl rfl rfl
  | succ n ih =>
    intro N w h0 h1 h9
    refine x_iload (pc := 12) dX8_lends_12 0 rfl ?_
    refine x_bipush (pc := 14) (z := 7) dX8_lends_14 (by decide) ?_
    refine x_icmp_ge (pc := 16) 34 dX8_lends_16 (by decide) (by unfold inI; omega) (by unfold inI; omega) (fun c_16 => (by exfalso; omega)) (fun c_16 => ?_)
    refine x_aload_n (pc := 19) dX8_lends_19 1 rfl ?_
    refine x_iload (pc := 20) dX8_lends_20 5 rfl ?_
    refine x_iload (pc := 22) dX8_lends_22 0 rfl ?_
    refine x_iconst (pc := 24) dX8_lends_24 ?_
    refine x_callV (pc := 25) _ dX8_lends_25 (mq_setsLoan (N0 9) w (0) (by omega)) lkX8_318 rfl rfl rfl rfl (mem_dom0 (by decide) (by decide)) (by decide) (Nat.le_of_ble_eq_true rfl) rfl ?_
    refine x_iinc (pc := 28) (lv' := [(5, _), (0, _), (1, _), (2, _), (3, _), (4, _)]) dX8_lends_28 0 rfl (by decide) rfl ?_
    refine x_goto (pc := 31) 12 dX8_lends_31 (by decide) ?_
    exact x_lv [0, 1, 2, 3, 4, 5] rfl (ih _ (w + 1) (by omega) (by omega) (by rw [h9]; rfl))

theorem mq_lends {G : GG} {m : Mem} {N : Int → Int} (c x k : Int) (hl : 0 ≤ N 9 ∧ N 9 < 16) : Ct G MX8_lends (rmD 2) [rf G 41 0, .int (iI c), .int (iI x), .int (iI k)] (hp (sr m N)) (.inl (some (.int (iI (N 9))))) (hp (sr m (ldN N c x k))) := by
  refine x_entry (by decide +kernel) mwX8_lends rfl (Nat.le_of_ble_eq_true rfl) ?_
  show X G MX8_lends (rmD 2) 0 [(0, rf G 41 0), (1, .int (iI c)), (2, .int (iI x)), (3, .int (iI k))] [] (hp (sr m N)) 0 0 (.inl (some (.int (iI (N 9))))) (hp (sr m (ldN N c x k)))
  refine x_aload_n (pc := 0) dX8_lends_0 0 rfl ?_
  refine y_getR (pc := 1) dX8_lends_1 flX8_9 rfl rfl rfl (by decide) ?_
  refine x_bipush (pc := 4) (z := 9) dX8_lends_4 (by decide) ?_
  refine y_nald (pc := 6) dX8_lends_6 (by omega) ?_
  refine x_istore (pc := 7) (lv' := [(4, _), (0, _), (1, _), (2, _), (3, _)]) dX8_lends_7 (by decide) rfl ?_
  refine x_iconst (pc := 9) dX8_lends_9 ?_
  refine x_istore (pc := 10) (lv' := [(5, _), (4, _), (0, _), (1, _), (2, _), (3, _)]) dX8_lends_10 (by decide) rfl ?_
  exact x_lv [0, 2, 3, 4, 5, 1] rfl (lp_lends c x k hl 7 N 0 (by omega) (by omega) rfl)

theorem mq_comesDue {G : GG} {m : Mem} {N : Int → Int} (l z : Int) (hl : 0 ≤ l ∧ l < 16) (h1 : inI (N (318 + 7 * l + 6))) (h2 : inI z) : Ct G MX8_comesDue (rmD 1) [rf G 41 0, .int (iI l), .int (iI z)] (hp (sr m N)) (.inl none) (hp (sr m (upN N (318 + 7 * l + 6) (min (N (318 + 7 * l + 6)) z)))) := by
  refine x_entry (by decide +kernel) mwX8_comesDue rfl (Nat.le_of_ble_eq_true rfl) ?_
  show X G MX8_comesDue (rmD 1) 0 [(0, rf G 41 0), (1, .int (iI l)), (2, .int (iI z))] [] (hp (sr m N)) 0 0 (.inl none) (hp (sr m (upN N (318 + 7 * l + 6) (min (N (318 + 7 * l + 6)) z))))
  refine x_aload_n (pc := 0) dX8_comesDue_0 0 rfl ?_
  refine x_iload_n (pc := 1) dX8_comesDue_1 1 rfl ?_
  refine x_bipush (pc := 2) (z := 6) dX8_comesDue_2 (by decide) ?_
  refine x_aload_n (pc := 4) dX8_comesDue_4 0 rfl ?_
  refine x_iload_n (pc := 5) dX8_comesDue_5 1 rfl ?_
  refine x_bipush (pc := 6) (z := 6) dX8_comesDue_6 (by decide) ?_
  refine x_callV (pc := 8) _ dX8_comesDue_8 (mq_ofLoan l 6 (by omega)) lkX8_50 rfl rfl rfl rfl (mem_dom0 (by decide) (by decide)) (by decide) (Nat.le_of_ble_eq_true rfl) rfl ?_
  refine x_iload_n (pc := 11) dX8_comesDue_11 2 rfl ?_
  refine x_min (pc := 12) dX8_comesDue_12 lmX8_106 h1 h2 (by decide) (Nat.le_of_ble_eq_true rfl) (by decide) (by decide) ?_
  refine x_callV (pc := 15) _ dX8_comesDue_15 (mq_setsLoan l 6 (min (N (318 + 7 * l + 6)) z) (by omega)) lkX8_318 rfl rfl rfl rfl (mem_dom0 (by decide) (by decide)) (by decide) (Nat.le_of_ble_eq_true rfl) rfl ?_
  exact y_vret (pc := 18) dX8_comesDue_18 rfl rfl

theorem mq_puts {G : GG} {m : Mem} {N : Int → Int} (hm : 0 ≤ m 41 0 6 ∧ m 41 0 6 ≤ 8) (i z : Int) (hi : 0 ≤ i ∧ i < 430) : Ct G MX8_puts (rmD 2) [rf G 41 0, .int (iI i), .int (iI z)] (hp (sr m N)) (.inl (some (.int (iI (N i))))) (hp (sr (KM m N) (upN N i z))) := by
  refine x_entry (by decide +kernel) mwX8_puts rfl (Nat.le_of_ble_eq_true rfl) ?_
  show X G MX8_puts (rmD 2) 0 [(0, rf G 41 0), (1, .int (iI i)), (2, .int (iI z))] [] (hp (sr m N)) 0 0 (.inl (some (.int (iI (N i))))) (hp (sr (KM m N) (upN N i z)))
  refine x_aload_n (pc := 0) dX8_puts_0 0 rfl ?_
  refine x_callV (pc := 1) _ dX8_puts_1 (mq_keepsN hm) lkX8_341 rfl rfl rfl rfl (mem_dom0 (by decide) (by decide)) (by decide) (Nat.le_of_ble_eq_true rfl) rfl ?_
  refine x_aload_n (pc := 4) dX8_puts_4 0 rfl ?_
  refine y_getR (pc := 5) dX8_puts_5 flX8_9 rfl rfl rfl (by decide) ?_
  refine x_iload_n (pc := 8) dX8_puts_8 1 rfl ?_
  refine y_nald (pc := 9) dX8_puts_9 (by omega) ?_
  refine x_istore_n (pc := 10) (lv' := [(3, _), (0, _), (1, _), (2, _)]) dX8_puts_10 rfl (by decide) rfl ?_
  refine x_aload_n (pc := 11) dX8_puts_11 1 rfl ?_
  refine y_getR (pc := 12) dX8_puts_12 flX8_9 rfl rfl rfl (by decide) ?_
  refine x_iload_n (pc := 15) dX8_puts_15 2 rfl ?_
  refine x_iload_n (pc := 16) dX8_puts_16 3 rfl ?_
  refine y_nast (pc := 17) dX8_puts_17 (by omega) ?_
  refine x_iload_n (pc := 18) dX8_puts_18 0 rfl ?_
  exact y_iret (pc := 19) dX8_puts_19 rfl rfl rfl

theorem Q_mend {G : GG} {m : Mem} {N : Int → Int} (hF : NF N) {a0 : Int} (ha0 : inI a0) (h0 : 0 ≤ a0 ∧ a0 < N 8) (hm : 0 ≤ m 41 0 6 ∧ m 41 0 6 ≤ 8)  : Ct G MX8_mend (rmD 9) [rf G 41 0, .int (iI a0)] (hp (sr m N)) (.inl (some (.int (iI (N (270 + 6 * a0 + 5)))))) (hp (sr (KM (thr m 0) N) (upN N (270 + 6 * a0 + 5) 0))) := by
  refine x_entry (by decide +kernel) mwX8_mend rfl (Nat.le_of_ble_eq_true rfl) ?_
  show X G MX8_mend (rmD 9) 0 [(0, rf G 41 0), (1, .int (iI a0))] [] (hp (sr m N)) 0 0 (.inl (some (.int (iI (N (270 + 6 * a0 + 5)))))) (hp (sr (KM (thr m 0) N) (upN N (270 + 6 * a0 + 5) 0)))
  have n8 := hF.1
  have n16 := hF.2.1
  have nc8 := hF.2.2.1
  have nl16 := hF.2.2.2.1.1
  refine x_aload_n (pc := 0) dX8_mend_0 0 rfl ?_
  refine x_aload_n (pc := 1) dX8_mend_1 0 rfl ?_
  refine x_iload_n (pc := 2) dX8_mend_2 1 rfl ?_
  refine x_callV (pc := 3) _ dX8_mend_3 (mq_isContract a0 ha0 (by omega)) lkX8_257 rfl rfl rfl rfl (mem_dom0 (by decide) (by decide)) (by decide) (Nat.le_of_ble_eq_true rfl) rfl ?_
  refine x_iconst (pc := 6) dX8_mend_6 ?_
  refine x_callV (pc := 7) _ dX8_mend_7 (mq_isThrown (b := 0 ≤ a0 ∧ a0 < N 8) 1) lkX8_227 rfl rfl rfl rfl (mem_dom0 (by decide) (by decide)) (by decide) (Nat.le_of_ble_eq_true rfl) rfl ?_
  refine x_nil (m' := sr (thr m 0) N) (by rw [if_pos h0]) ?_
  refine x_ifb_eq (pc := 10) 17 dX8_mend_10 (by decide) (fun c_10 => ?_) (fun c_10 => absurd c_10 (fun z => z h0))
  refine x_aload_n (pc := 17) dX8_mend_17 0 rfl ?_
  refine x_sipush (pc := 18) (z := 270) dX8_mend_18 (by decide) ?_
  refine x_bipush (pc := 21) (z := 6) dX8_mend_21 (by decide) ?_
  refine x_iload_n (pc := 23) dX8_mend_23 1 rfl ?_
  refine x_imul (pc := 24) dX8_mend_24 ?_
  refine x_iadd (pc := 25) dX8_mend_25 ?_
  refine x_iconst (pc := 26) dX8_mend_26 ?_
  refine x_iadd (pc := 27) dX8_mend_27 ?_
  refine x_iconst (pc := 28) dX8_mend_28 ?_
  refine x_callV (pc := 29) _ dX8_mend_29 (mq_puts (m := thr m 0) (by rw [thr_6]; exact hm) (270 + 6 * a0 + 5) 0 (by omega)) lkX8_351 rfl rfl rfl rfl (mem_dom0 (by decide) (by decide)) (by decide) (Nat.le_of_ble_eq_true rfl) rfl ?_
  exact y_iret (pc := 32) dX8_mend_32 rfl rfl rfl

theorem Qx_mend_0 {G : GG} {m : Mem} {N : Int → Int} (hF : NF N) {a0 : Int} (ha0 : inI a0)  (h0 : ¬ (0 ≤ a0 ∧ a0 < N 8)) : Ct G MX8_mend (rmD 9) [rf G 41 0, .int (iI a0)] (hp (sr m N)) (.inl (some (.int (iI (0))))) (hp (sr (thr m 1) N)) := by
  refine x_entry (by decide +kernel) mwX8_mend rfl (Nat.le_of_ble_eq_true rfl) ?_
  show X G MX8_mend (rmD 9) 0 [(0, rf G 41 0), (1, .int (iI a0))] [] (hp (sr m N)) 0 0 (.inl (some (.int (iI (0))))) (hp (sr (thr m 1) N))
  have n8 := hF.1
  have n16 := hF.2.1
  have nc8 := hF.2.2.1
  have nl16 := hF.2.2.2.1.1
  refine x_aload_n (pc := 0) dX8_mend_0 0 rfl ?_
  refine x_aload_n (pc := 1) dX8_mend_1 0 rfl ?_
  refine x_iload_n (pc := 2) dX8_mend_2 1 rfl ?_
  refine x_callV (pc := 3) _ dX8_mend_3 (mq_isContract a0 ha0 (by omega)) lkX8_257 rfl rfl rfl rfl (mem_dom0 (by decide) (by decide)) (by decide) (Nat.le_of_ble_eq_true rfl) rfl ?_
  refine x_iconst (pc := 6) dX8_mend_6 ?_
  refine x_callV (pc := 7) _ dX8_mend_7 (mq_isThrown (b := 0 ≤ a0 ∧ a0 < N 8) 1) lkX8_227 rfl rfl rfl rfl (mem_dom0 (by decide) (by decide)) (by decide) (Nat.le_of_ble_eq_true rfl) rfl ?_
  refine x_nil (m' := sr (thr m 1) N) (by rw [if_neg h0]) ?_
  refine x_ifb_eq (pc := 10) 17 dX8_mend_10 (by decide) (fun c_10 => absurd c_10 (fun z => z h0)) (fun c_10 => ?_)
  refine x_iconst (pc := 13) dX8_mend_13 ?_
  refine x_goto (pc := 14) 32 dX8_mend_14 (by decide) ?_
  exact y_iret (pc := 32) dX8_mend_32 rfl rfl rfl

theorem Q_setReserve {G : GG} {m : Mem} {N : Int → Int} (hF : NF N) {a0 a1 : Int} (ha0 : inI a0) (ha1 : inI a1) (h0 : 0 ≤ a0 ∧ a0 < N 3) (h1 : 0 ≤ a1 ∧ a1 ≤ 100000) (hm : 0 ≤ m 41 0 6 ∧ m 41 0 6 ≤ 8)  : Ct G MX8_setReserve (rmD 9) [rf G 41 0, .int (iI a0), .int (iI a1)] (hp (sr m N)) (.inl (some (.int (iI (N (30 + 7 * a0 + 4)))))) (hp (sr (KM (thr m 0) N) (upN N (30 + 7 * a0 + 4) a1))) := by
  refine x_entry (by decide +kernel) mwX8_setReserve rfl (Nat.le_of_ble_eq_true rfl) ?_
  show X G MX8_setReserve (rmD 9) 0 [(0, rf G 41 0), (1, .int (iI a0)), (2, .int (iI a1))] [] (hp (sr m N)) 0 0 (.inl (some (.int (iI (N (30 + 7 * a0 + 4)))))) (hp (sr (KM (thr m 0) N) (upN N (30 + 7 * a0 + 4) a1)))
  have n8 := hF.1
  have n16 := hF.2.1
  have nc8 := hF.2.2.1
  have nl16 := hF.2.2.2.1.1
  refine x_aload_n (pc := 0) dX8_setReserve_0 0 rfl ?_
  refine x_aload_n (pc := 1) dX8_setReserve_1 0 rfl ?_
  refine x_iload_n (pc := 2) dX8_setReserve_2 1 rfl ?_
  refine x_callV (pc := 3) _ dX8_setReserve_3 (mq_isPack a0 ha0 (by omega)) lkX8_234 rfl rfl rfl rfl (mem_dom0 (by decide) (by decide)) (by decide) (Nat.le_of_ble_eq_true rfl) rfl ?_
  refine x_iconst (pc := 6) dX8_setReserve_6 ?_
  refine x_callV (pc := 7) _ dX8_setReserve_7 (mq_isThrown (b := 0 ≤ a0 ∧ a0 < N 3) 1) lkX8_227 rfl rfl rfl rfl (mem_dom0 (by decide) (by decide)) (by decide) (Nat.le_of_ble_eq_true rfl) rfl ?_
  refine x_nil (m' := sr (thr m 0) N) (by rw [if_pos h0]) ?_
  refine x_ifb_ne (pc := 10) 30 dX8_setReserve_10 (by decide) (fun c_10 => absurd c_10 (fun z => z h0)) (fun c_10 => ?_)
  refine x_aload_n (pc := 13) dX8_setReserve_13 0 rfl ?_
  refine x_iload_n (pc := 14) dX8_setReserve_14 2 rfl ?_
  refine x_i2l (pc := 15) dX8_setReserve_15 ha1 ?_
  refine x_lconst (pc := 16) (z := 0) dX8_setReserve_16 (by decide) ?_
  refine x_ldc2 (pc := 17) (z := 100000) dX8_setReserve_17 kcX8_48 (by decide) ?_
  refine x_callS (pc := 20) _ dX8_setReserve_20 (mq_in a1 0 100000 (by unfold inL; unfold inI at ha1; omega) (by unfold inL; omega) (by unfold inL; omega)) lkX8_44 rfl (by decide) (Nat.le_of_ble_eq_true rfl) rfl ?_
  refine x_iconst (pc := 23) dX8_setReserve_23 ?_
  refine x_callV (pc := 24) _ dX8_setReserve_24 (mq_isThrown (b := 0 ≤ a1 ∧ a1 ≤ 100000) 2) lkX8_227 rfl rfl rfl rfl (mem_dom0 (by decide) (by decide)) (by decide) (Nat.le_of_ble_eq_true rfl) rfl ?_
  refine x_nil (m' := sr (thr m 0) N) (by rw [if_pos h1, thr_thr]) ?_
  refine x_ifb_eq (pc := 27) 32 dX8_setReserve_27 (by decide) (fun c_27 => ?_) (fun c_27 => absurd c_27 (fun z => z h1))
  refine x_aload_n (pc := 32) dX8_setReserve_32 0 rfl ?_
  refine x_bipush (pc := 33) (z := 30) dX8_setReserve_33 (by decide) ?_
  refine x_bipush (pc := 35) (z := 7) dX8_setReserve_35 (by decide) ?_
  refine x_iload_n (pc := 37) dX8_setReserve_37 1 rfl ?_
  refine x_imul (pc := 38) dX8_setReserve_38 ?_
  refine x_iadd (pc := 39) dX8_setReserve_39 ?_
  refine x_iconst (pc := 40) dX8_setReserve_40 ?_
  refine x_iadd (pc := 41) dX8_setReserve_41 ?_
  refine x_iload_n (pc := 42) dX8_setReserve_42 2 rfl ?_
  refine x_callV (pc := 43) _ dX8_setReserve_43 (mq_puts (m := thr m 0) (by rw [thr_6]; exact hm) (30 + 7 * a0 + 4) a1 (by omega)) lkX8_351 rfl rfl rfl rfl (mem_dom0 (by decide) (by decide)) (by decide) (Nat.le_of_ble_eq_true rfl) rfl ?_
  exact y_iret (pc := 46) dX8_setReserve_46 rfl rfl rfl

theorem Qx_setReserve_0 {G : GG} {m : Mem} {N : Int → Int} (hF : NF N) {a0 a1 : Int} (ha0 : inI a0) (ha1 : inI a1)  (h0 : ¬ (0 ≤ a0 ∧ a0 < N 3)) : Ct G MX8_setReserve (rmD 9) [rf G 41 0, .int (iI a0), .int (iI a1)] (hp (sr m N)) (.inl (some (.int (iI (0))))) (hp (sr (thr m 1) N)) := by
  refine x_entry (by decide +kernel) mwX8_setReserve rfl (Nat.le_of_ble_eq_true rfl) ?_
  show X G MX8_setReserve (rmD 9) 0 [(0, rf G 41 0), (1, .int (iI a0)), (2, .int (iI a1))] [] (hp (sr m N)) 0 0 (.inl (some (.int (iI (0))))) (hp (sr (thr m 1) N))
  have n8 := hF.1
  have n16 := hF.2.1
  have nc8 := hF.2.2.1
  have nl16 := hF.2.2.2.1.1
  refine x_aload_n (pc := 0) dX8_setReserve_0 0 rfl ?_
  refine x_aload_n (pc := 1) dX8_setReserve_1 0 rfl ?_
  refine x_iload_n (pc := 2) dX8_setReserve_2 1 rfl ?_
  refine x_callV (pc := 3) _ dX8_setReserve_3 (mq_isPack a0 ha0 (by omega)) lkX8_234 rfl rfl rfl rfl (mem_dom0 (by decide) (by decide)) (by decide) (Nat.le_of_ble_eq_true rfl) rfl ?_
  refine x_iconst (pc := 6) dX8_setReserve_6 ?_
  refine x_callV (pc := 7) _ dX8_setReserve_7 (mq_isThrown (b := 0 ≤ a0 ∧ a0 < N 3) 1) lkX8_227 rfl rfl rfl rfl (mem_dom0 (by decide) (by decide)) (by decide) (Nat.le_of_ble_eq_true rfl) rfl ?_
  refine x_nil (m' := sr (thr m 1) N) (by rw [if_neg h0]) ?_
  refine x_ifb_ne (pc := 10) 30 dX8_setReserve_10 (by decide) (fun c_10 => ?_) (fun c_10 => absurd c_10 (fun z => z h0))
  refine x_iconst (pc := 30) dX8_setReserve_30 ?_
  exact y_iret (pc := 31) dX8_setReserve_31 rfl rfl rfl

theorem Qx_setReserve_1 {G : GG} {m : Mem} {N : Int → Int} (hF : NF N) {a0 a1 : Int} (ha0 : inI a0) (ha1 : inI a1) (h0 : 0 ≤ a0 ∧ a0 < N 3) (h1 : ¬ (0 ≤ a1 ∧ a1 ≤ 100000)) : Ct G MX8_setReserve (rmD 9) [rf G 41 0, .int (iI a0), .int (iI a1)] (hp (sr m N)) (.inl (some (.int (iI (0))))) (hp (sr (thr m 2) N)) := by
  refine x_entry (by decide +kernel) mwX8_setReserve rfl (Nat.le_of_ble_eq_true rfl) ?_
  show X G MX8_setReserve (rmD 9) 0 [(0, rf G 41 0), (1, .int (iI a0)), (2, .int (iI a1))] [] (hp (sr m N)) 0 0 (.inl (some (.int (iI (0))))) (hp (sr (thr m 2) N))
  have n8 := hF.1
  have n16 := hF.2.1
  have nc8 := hF.2.2.1
  have nl16 := hF.2.2.2.1.1
  refine x_aload_n (pc := 0) dX8_setReserve_0 0 rfl ?_
  refine x_aload_n (pc := 1) dX8_setReserve_1 0 rfl ?_
  refine x_iload_n (pc := 2) dX8_setReserve_2 1 rfl ?_
  refine x_callV (pc := 3) _ dX8_setReserve_3 (mq_isPack a0 ha0 (by omega)) lkX8_234 rfl rfl rfl rfl (mem_dom0 (by decide) (by decide)) (by decide) (Nat.le_of_ble_eq_true rfl) rfl ?_
  refine x_iconst (pc := 6) dX8_setReserve_6 ?_
  refine x_callV (pc := 7) _ dX8_setReserve_7 (mq_isThrown (b := 0 ≤ a0 ∧ a0 < N 3) 1) lkX8_227 rfl rfl rfl rfl (mem_dom0 (by decide) (by decide)) (by decide) (Nat.le_of_ble_eq_true rfl) rfl ?_
  refine x_nil (m' := sr (thr m 0) N) (by rw [if_pos h0]) ?_
  refine x_ifb_ne (pc := 10) 30 dX8_setReserve_10 (by decide) (fun c_10 => absurd c_10 (fun z => z h0)) (fun c_10 => ?_)
  refine x_aload_n (pc := 13) dX8_setReserve_13 0 rfl ?_
  refine x_iload_n (pc := 14) dX8_setReserve_14 2 rfl ?_
  refine x_i2l (pc := 15) dX8_setReserve_15 ha1 ?_
  refine x_lconst (pc := 16) (z := 0) dX8_setReserve_16 (by decide) ?_
  refine x_ldc2 (pc := 17) (z := 100000) dX8_setReserve_17 kcX8_48 (by decide) ?_
  refine x_callS (pc := 20) _ dX8_setReserve_20 (mq_in a1 0 100000 (by unfold inL; unfold inI at ha1; omega) (by unfold inL; omega) (by unfold inL; omega)) lkX8_44 rfl (by decide) (Nat.le_of_ble_eq_true rfl) rfl ?_
  refine x_iconst (pc := 23) dX8_setReserve_23 ?_
  refine x_callV (pc := 24) _ dX8_setReserve_24 (mq_isThrown (b := 0 ≤ a1 ∧ a1 ≤ 100000) 2) lkX8_227 rfl rfl rfl rfl (mem_dom0 (by decide) (by decide)) (by decide) (Nat.le_of_ble_eq_true rfl) rfl ?_
  refine x_nil (m' := sr (thr m 2) N) (by rw [if_neg h1, thr_thr]) ?_
  refine x_ifb_eq (pc := 27) 32 dX8_setReserve_27 (by decide) (fun c_27 => absurd c_27 (fun z => z h1)) (fun c_27 => ?_)
  refine x_iconst (pc := 30) dX8_setReserve_30 ?_
  exact y_iret (pc := 31) dX8_setReserve_31 rfl rfl rfl
