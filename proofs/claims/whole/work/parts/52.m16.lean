theorem lp_rtc {G : GG} {m : Mem} {p s : Nat} (l k z9 : Int) (hl : 0 ≤ l ∧ l < 16) (hk : 0 ≤ k ∧ k ≤ 10000) (N9 : Int → Int) : ∀ (n : Nat) (c9 : Mem) (N : Int → Int) (i : Int), BP c9 p → BS c9 p s → RP c9 p N → RS c9 p s N → l < c9 2 s 0 → c9 0 s 0 ≤ 9999 → 0 ≤ i → i ≤ k → n = min (k - i) (9999 - c9 0 s 0) → N9 = enR N l n → z9 = i + enC N l n → X G MX8_runToClosed (rmD 9) 38 [(3, .int (iI i)), (0, rf G 41 0), (1, .int (iI l)), (2, .int (iI k))] [] (hp (sr m N)) 0 0 (.inl (some (.int (iI (if N9 (318 + 7 * l + 5) ≤ 2 then -1 else z9))))) (hp (sr m N9)) := by
  intro n
  induction n with
  | zero =>
    intro c9 N i hP hB hR hS h2 ht h0 h1 hn h9 hz
    have lf := LN_of hP hB hR hS hl.1 h2
    have l5 := lf.2.2.2.2.2.1
    have et := hS.1.1
    have t0 := hB.1
    refine x_iload_n (pc := 38) dX8_runToClosed_38 0 rfl ?_
    refine x_iload_n (pc := 39) dX8_runToClosed_39 3 rfl ?_
    refine x_icmp_ge (pc := 40) 73 dX8_runToClosed_40 (by decide) (by unfold inI; omega) (by unfold inI; omega) (fun c_40 => ?_) (fun c_40 => ?_)
    · have e9 : N9 = N := h9
      have ez : z9 = i := by rw [hz]; show i + 0 = i; omega
      refine x_aload_n (pc := 73) dX8_runToClosed_73 1 rfl ?_
      refine x_iload_n (pc := 74) dX8_runToClosed_74 2 rfl ?_
      refine x_callV (pc := 75) _ dX8_runToClosed_75 (mq_isOpen l (by omega) (by unfold inI; omega)) lkX8_221 rfl rfl rfl rfl (mem_dom0 (by decide) (by decide)) (by decide) (Nat.le_of_ble_eq_true rfl) rfl ?_
      refine x_ifb_eq (pc := 78) 85 dX8_runToClosed_78 (by decide) (fun c_78 => ?_) (fun c_78 => ?_)
      · refine x_iload_n (pc := 85) dX8_runToClosed_85 0 rfl ?_
        exact y_iret (pc := 86) dX8_runToClosed_86 rfl (by rw [e9, ez, if_neg c_78]) (by rw [e9])
      · refine x_iconst (pc := 81) dX8_runToClosed_81 ?_
        refine x_goto (pc := 82) 86 dX8_runToClosed_82 (by decide) ?_
        exact y_iret (pc := 86) dX8_runToClosed_86 rfl (by rw [e9, if_pos c_78]) (by rw [e9])
    · refine x_aload_n (pc := 43) dX8_runToClosed_43 1 rfl ?_
      refine y_getR (pc := 44) dX8_runToClosed_44 flX8_9 rfl rfl rfl (by decide) ?_
      refine x_iconst (pc := 47) dX8_runToClosed_47 ?_
      refine y_nald (pc := 48) dX8_runToClosed_48 (by omega) ?_
      refine x_sipush (pc := 49) (z := 9999) dX8_runToClosed_49 (by decide) ?_
      refine x_icmp_ge (pc := 52) 73 dX8_runToClosed_52 (by decide) (by unfold inI; omega) (by unfold inI; omega) (fun c_52 => ?_) (fun c_52 => (by exfalso; omega))
      have e9 : N9 = N := h9
      have ez : z9 = i := by rw [hz]; show i + 0 = i; omega
      refine x_aload_n (pc := 73) dX8_runToClosed_73 1 rfl ?_
      refine x_iload_n (pc := 74) dX8_runToClosed_74 2 rfl ?_
      refine x_callV (pc := 75) _ dX8_runToClosed_75 (mq_isOpen l (by omega) (by unfold inI; omega)) lkX8_221 rfl rfl rfl rfl (mem_dom0 (by decide) (by decide)) (by decide) (Nat.le_of_ble_eq_true rfl) rfl ?_
      refine x_ifb_eq (pc := 78) 85 dX8_runToClosed_78 (by decide) (fun c_78 => ?_) (fun c_78 => ?_)
      · refine x_iload_n (pc := 85) dX8_runToClosed_85 0 rfl ?_
        exact y_iret (pc := 86) dX8_runToClosed_86 rfl (by rw [e9, ez, if_neg c_78]) (by rw [e9])
      · refine x_iconst (pc := 81) dX8_runToClosed_81 ?_
        refine x_goto (pc := 82) 86 dX8_runToClosed_82 (by decide) ?_
        exact y_iret (pc := 86) dX8_runToClosed_86 rfl (by rw [e9, if_pos c_78]) (by rw [e9])
  | succ n ih =>
    intro c9 N i hP hB hR hS h2 ht h0 h1 hn h9 hz
    have lf := LN_of hP hB hR hS hl.1 h2
    have l5 := lf.2.2.2.2.2.1
    have et := hS.1.1
    have t0 := hB.1
    have b := tkC_f hP hB (by omega)
    have r := (R_tk hP hB hR hS).2.2.2.2.2
    refine x_iload_n (pc := 38) dX8_runToClosed_38 0 rfl ?_
    refine x_iload_n (pc := 39) dX8_runToClosed_39 3 rfl ?_
    refine x_icmp_ge (pc := 40) 73 dX8_runToClosed_40 (by decide) (by unfold inI; omega) (by unfold inI; omega) (fun c_40 => (by exfalso; omega)) (fun c_40 => ?_)
    refine x_aload_n (pc := 43) dX8_runToClosed_43 1 rfl ?_
    refine y_getR (pc := 44) dX8_runToClosed_44 flX8_9 rfl rfl rfl (by decide) ?_
    refine x_iconst (pc := 47) dX8_runToClosed_47 ?_
    refine y_nald (pc := 48) dX8_runToClosed_48 (by omega) ?_
    refine x_sipush (pc := 49) (z := 9999) dX8_runToClosed_49 (by decide) ?_
    refine x_icmp_ge (pc := 52) 73 dX8_runToClosed_52 (by decide) (by unfold inI; omega) (by unfold inI; omega) (fun c_52 => (by exfalso; omega)) (fun c_52 => ?_)
    refine x_aload_n (pc := 55) dX8_runToClosed_55 1 rfl ?_
    refine x_iload_n (pc := 56) dX8_runToClosed_56 2 rfl ?_
    refine x_callV (pc := 57) _ dX8_runToClosed_57 (mq_isOpen l (by omega) (by unfold inI; omega)) lkX8_221 rfl rfl rfl rfl (mem_dom0 (by decide) (by decide)) (by decide) (Nat.le_of_ble_eq_true rfl) rfl ?_
    refine x_ifb_eq (pc := 60) 73 dX8_runToClosed_60 (by decide) (fun c_60 => ?_) (fun c_60 => ?_)
    · have e9 : N9 = N := by rw [h9]; show (if _ then _ else _) = _; rw [if_neg c_60]
      have ez : z9 = i := by rw [hz]; show i + (if _ then _ else _) = _; rw [if_neg c_60]; omega
      refine x_aload_n (pc := 73) dX8_runToClosed_73 1 rfl ?_
      refine x_iload_n (pc := 74) dX8_runToClosed_74 2 rfl ?_
      refine x_callV (pc := 75) _ dX8_runToClosed_75 (mq_isOpen l (by omega) (by unfold inI; omega)) lkX8_221 rfl rfl rfl rfl (mem_dom0 (by decide) (by decide)) (by decide) (Nat.le_of_ble_eq_true rfl) rfl ?_
      refine x_ifb_eq (pc := 78) 85 dX8_runToClosed_78 (by decide) (fun c_78 => ?_) (fun c_78 => absurd c_78 c_60)
      refine x_iload_n (pc := 85) dX8_runToClosed_85 0 rfl ?_
      exact y_iret (pc := 86) dX8_runToClosed_86 rfl (by rw [e9, ez, if_neg c_78]) (by rw [e9])
    · refine x_aload_n (pc := 63) dX8_runToClosed_63 1 rfl ?_
      refine x_callV (pc := 64) _ dX8_runToClosed_64 (mq_passes hP hB hR hS) lkX8_360 rfl rfl rfl rfl (mem_dom0 (by decide) (by decide)) (by decide) (Nat.le_of_ble_eq_true rfl) rfl ?_
      refine x_iinc (pc := 67) (lv' := [(3, _), (0, _), (1, _), (2, _)]) dX8_runToClosed_67 0 rfl (by decide) rfl ?_
      refine x_goto (pc := 70) 38 dX8_runToClosed_70 (by decide) ?_
      exact x_lv [0, 1, 2, 3] rfl (ih _ _ (i + 1) b.1 b.2 r.1 r.2.1 (by rw [tkC_k (by omega)]; exact h2) (by rw [tkC_t]; omega) (by omega) (by omega) (by rw [tkC_t]; omega) (by rw [h9]; show (if _ then _ else _) = _; rw [if_pos c_60]) (by rw [hz]; show i + (if _ then _ else _) = _; rw [if_pos c_60]; omega))

theorem Q_runToClosed {G : GG} {m : Mem} {N : Int → Int} (hF : NF N) {a0 a1 : Int} (ha0 : inI a0) (ha1 : inI a1) (h0 : 0 ≤ a0 ∧ a0 < N 9) (h1 : 1 ≤ a1 ∧ a1 ≤ 1000) (hm : 0 ≤ m 41 0 6 ∧ m 41 0 6 ≤ 8) {c9 : Mem} {p s : Nat} (hP : BP c9 p) (hB : BS c9 p s) (hR : RP c9 p N) (hS : RS c9 p s N) (ht : c9 0 s 0 ≤ 9999) (h2 : a0 < c9 2 s 0) : Ct G MX8_runToClosed (rmD 9) [rf G 41 0, .int (iI a0), .int (iI a1)] (hp (sr m N)) (.inl (some (.int (iI (if enR N a0 (min a1 (9999 - c9 0 s 0)).toNat (318 + 7 * a0 + 5) ≤ 2 then -1 else enC N a0 (min a1 (9999 - c9 0 s 0)).toNat))))) (hp (sr (KM (thr m 0) N) (enR N a0 (min a1 (9999 - c9 0 s 0)).toNat))) := by
  refine x_entry (by decide +kernel) mwX8_runToClosed rfl (Nat.le_of_ble_eq_true rfl) ?_
  show X G MX8_runToClosed (rmD 9) 0 [(0, rf G 41 0), (1, .int (iI a0)), (2, .int (iI a1))] [] (hp (sr m N)) 0 0 (.inl (some (.int (iI (if enR N a0 (min a1 (9999 - c9 0 s 0)).toNat (318 + 7 * a0 + 5) ≤ 2 then -1 else enC N a0 (min a1 (9999 - c9 0 s 0)).toNat))))) (hp (sr (KM (thr m 0) N) (enR N a0 (min a1 (9999 - c9 0 s 0)).toNat)))
  have n8 := hF.1
  have n16 := hF.2.1
  have nc8 := hF.2.2.1
  have nl16 := hF.2.2.2.1.1
  refine x_aload_n (pc := 0) dX8_runToClosed_0 0 rfl ?_
  refine x_aload_n (pc := 1) dX8_runToClosed_1 0 rfl ?_
  refine x_iload_n (pc := 2) dX8_runToClosed_2 1 rfl ?_
  refine x_callV (pc := 3) _ dX8_runToClosed_3 (mq_isLoan a0 ha0 (by omega)) lkX8_269 rfl rfl rfl rfl (mem_dom0 (by decide) (by decide)) (by decide) (Nat.le_of_ble_eq_true rfl) rfl ?_
  refine x_iconst (pc := 6) dX8_runToClosed_6 ?_
  refine x_callV (pc := 7) _ dX8_runToClosed_7 (mq_isThrown (b := 0 ≤ a0 ∧ a0 < N 9) 1) lkX8_227 rfl rfl rfl rfl (mem_dom0 (by decide) (by decide)) (by decide) (Nat.le_of_ble_eq_true rfl) rfl ?_
  refine x_nil (m' := sr (thr m 0) N) (by rw [if_pos h0]) ?_
  refine x_ifb_ne (pc := 10) 30 dX8_runToClosed_10 (by decide) (fun c_10 => absurd c_10 (fun z => z h0)) (fun c_10 => ?_)
  refine x_aload_n (pc := 13) dX8_runToClosed_13 0 rfl ?_
  refine x_iload_n (pc := 14) dX8_runToClosed_14 2 rfl ?_
  refine x_i2l (pc := 15) dX8_runToClosed_15 ha1 ?_
  refine x_lconst (pc := 16) (z := 1) dX8_runToClosed_16 (by decide) ?_
  refine x_ldc2 (pc := 17) (z := 1000) dX8_runToClosed_17 kcX8_293 (by decide) ?_
  refine x_callS (pc := 20) _ dX8_runToClosed_20 (mq_in a1 1 1000 (by unfold inL; unfold inI at ha1; omega) (by unfold inL; omega) (by unfold inL; omega)) lkX8_44 rfl (by decide) (Nat.le_of_ble_eq_true rfl) rfl ?_
  refine x_iconst (pc := 23) dX8_runToClosed_23 ?_
  refine x_callV (pc := 24) _ dX8_runToClosed_24 (mq_isThrown (b := 1 ≤ a1 ∧ a1 ≤ 1000) 2) lkX8_227 rfl rfl rfl rfl (mem_dom0 (by decide) (by decide)) (by decide) (Nat.le_of_ble_eq_true rfl) rfl ?_
  refine x_nil (m' := sr (thr m 0) N) (by rw [if_pos h1, thr_thr]) ?_
  refine x_ifb_eq (pc := 27) 32 dX8_runToClosed_27 (by decide) (fun c_27 => ?_) (fun c_27 => absurd c_27 (fun z => z h1))
  refine x_aload_n (pc := 32) dX8_runToClosed_32 0 rfl ?_
  refine x_callV (pc := 33) _ dX8_runToClosed_33 (mq_keepsN (m := thr m 0) (by rw [thr_6]; exact hm)) lkX8_341 rfl rfl rfl rfl (mem_dom0 (by decide) (by decide)) (by decide) (Nat.le_of_ble_eq_true rfl) rfl ?_
  refine x_nil (m' := sr (KM (thr m 0) N) N) rfl ?_
  refine x_iconst (pc := 36) dX8_runToClosed_36 ?_
  refine x_istore_n (pc := 37) (lv' := [(3, _), (0, _), (1, _), (2, _)]) dX8_runToClosed_37 rfl (by decide) rfl ?_
  have t0 := hB.1
  exact x_lv [0, 1, 2, 3] rfl (lp_rtc a0 a1 _ (by omega) (by omega) _ (min a1 (9999 - c9 0 s 0)).toNat c9 N 0 hP hB hR hS h2 ht (by omega) (by omega) (by omega) rfl (by omega))

theorem Qx_runToClosed_0 {G : GG} {m : Mem} {N : Int → Int} (hF : NF N) {a0 a1 : Int} (ha0 : inI a0) (ha1 : inI a1)  (h0 : ¬ (0 ≤ a0 ∧ a0 < N 9)) : Ct G MX8_runToClosed (rmD 9) [rf G 41 0, .int (iI a0), .int (iI a1)] (hp (sr m N)) (.inl (some (.int (iI (0))))) (hp (sr (thr m 1) N)) := by
  refine x_entry (by decide +kernel) mwX8_runToClosed rfl (Nat.le_of_ble_eq_true rfl) ?_
  show X G MX8_runToClosed (rmD 9) 0 [(0, rf G 41 0), (1, .int (iI a0)), (2, .int (iI a1))] [] (hp (sr m N)) 0 0 (.inl (some (.int (iI (0))))) (hp (sr (thr m 1) N))
  have n8 := hF.1
  have n16 := hF.2.1
  have nc8 := hF.2.2.1
  have nl16 := hF.2.2.2.1.1
  refine x_aload_n (pc := 0) dX8_runToClosed_0 0 rfl ?_
  refine x_aload_n (pc := 1) dX8_runToClosed_1 0 rfl ?_
  refine x_iload_n (pc := 2) dX8_runToClosed_2 1 rfl ?_
  refine x_callV (pc := 3) _ dX8_runToClosed_3 (mq_isLoan a0 ha0 (by omega)) lkX8_269 rfl rfl rfl rfl (mem_dom0 (by decide) (by decide)) (by decide) (Nat.le_of_ble_eq_true rfl) rfl ?_
  refine x_iconst (pc := 6) dX8_runToClosed_6 ?_
  refine x_callV (pc := 7) _ dX8_runToClosed_7 (mq_isThrown (b := 0 ≤ a0 ∧ a0 < N 9) 1) lkX8_227 rfl rfl rfl rfl (mem_dom0 (by decide) (by decide)) (by decide) (Nat.le_of_ble_eq_true rfl) rfl ?_
  refine x_nil (m' := sr (thr m 1) N) (by rw [if_neg h0]) ?_
  refine x_ifb_ne (pc := 10) 30 dX8_runToClosed_10 (by decide) (fun c_10 => ?_) (fun c_10 => absurd c_10 (fun z => z h0))
  refine x_iconst (pc := 30) dX8_runToClosed_30 ?_
  exact y_iret (pc := 31) dX8_runToClosed_31 rfl rfl rfl

theorem Qx_runToClosed_1 {G : GG} {m : Mem} {N : Int → Int} (hF : NF N) {a0 a1 : Int} (ha0 : inI a0) (ha1 : inI a1) (h0 : 0 ≤ a0 ∧ a0 < N 9) (h1 : ¬ (1 ≤ a1 ∧ a1 ≤ 1000)) : Ct G MX8_runToClosed (rmD 9) [rf G 41 0, .int (iI a0), .int (iI a1)] (hp (sr m N)) (.inl (some (.int (iI (0))))) (hp (sr (thr m 2) N)) := by
  refine x_entry (by decide +kernel) mwX8_runToClosed rfl (Nat.le_of_ble_eq_true rfl) ?_
  show X G MX8_runToClosed (rmD 9) 0 [(0, rf G 41 0), (1, .int (iI a0)), (2, .int (iI a1))] [] (hp (sr m N)) 0 0 (.inl (some (.int (iI (0))))) (hp (sr (thr m 2) N))
  have n8 := hF.1
  have n16 := hF.2.1
  have nc8 := hF.2.2.1
  have nl16 := hF.2.2.2.1.1
  refine x_aload_n (pc := 0) dX8_runToClosed_0 0 rfl ?_
  refine x_aload_n (pc := 1) dX8_runToClosed_1 0 rfl ?_
  refine x_iload_n (pc := 2) dX8_runToClosed_2 1 rfl ?_
  refine x_callV (pc := 3) _ dX8_runToClosed_3 (mq_isLoan a0 ha0 (by omega)) lkX8_269 rfl rfl rfl rfl (mem_dom0 (by decide) (by decide)) (by decide) (Nat.le_of_ble_eq_true rfl) rfl ?_
  refine x_iconst (pc := 6) dX8_runToClosed_6 ?_
  refine x_callV (pc := 7) _ dX8_runToClosed_7 (mq_isThrown (b := 0 ≤ a0 ∧ a0 < N 9) 1) lkX8_227 rfl rfl rfl rfl (mem_dom0 (by decide) (by decide)) (by decide) (Nat.le_of_ble_eq_true rfl) rfl ?_
  refine x_nil (m' := sr (thr m 0) N) (by rw [if_pos h0]) ?_
  refine x_ifb_ne (pc := 10) 30 dX8_runToClosed_10 (by decide) (fun c_10 => absurd c_10 (fun z => z h0)) (fun c_10 => ?_)
  refine x_aload_n (pc := 13) dX8_runToClosed_13 0 rfl ?_
  refine x_iload_n (pc := 14) dX8_runToClosed_14 2 rfl ?_
  refine x_i2l (pc := 15) dX8_runToClosed_15 ha1 ?_
  refine x_lconst (pc := 16) (z := 1) dX8_runToClosed_16 (by decide) ?_
  refine x_ldc2 (pc := 17) (z := 1000) dX8_runToClosed_17 kcX8_293 (by decide) ?_
  refine x_callS (pc := 20) _ dX8_runToClosed_20 (mq_in a1 1 1000 (by unfold inL; unfold inI at ha1; omega) (by unfold inL; omega) (by unfold inL; omega)) lkX8_44 rfl (by decide) (Nat.le_of_ble_eq_true rfl) rfl ?_
  refine x_iconst (pc := 23) dX8_runToClosed_23 ?_
  refine x_callV (pc := 24) _ dX8_runToClosed_24 (mq_isThrown (b := 1 ≤ a1 ∧ a1 ≤ 1000) 2) lkX8_227 rfl rfl rfl rfl (mem_dom0 (by decide) (by decide)) (by decide) (Nat.le_of_ble_eq_true rfl) rfl ?_
  refine x_nil (m' := sr (thr m 2) N) (by rw [if_neg h1, thr_thr]) ?_
  refine x_ifb_eq (pc := 27) 32 dX8_runToClosed_27 (by decide) (fun c_27 => absurd c_27 (fun z => z h1)) (fun c_27 => ?_)
  refine x_iconst (pc := 30) dX8_runToClosed_30 ?_
  exact y_iret (pc := 31) dX8_runToClosed_31 rfl rfl rfl
