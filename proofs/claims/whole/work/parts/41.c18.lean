theorem ct_passTicksN {G : GG} {m : Mem} {w : Nat} (hw : w < 5) (k : Int) (hk : k ≤ 0) (hi : inI k) : Ct G MX6_passTicks (rmD 5) [rf G 33 w, .int (iI k)] (hp (m)) (.inl none) (hp (m)) := by
  refine x_entry (by decide +kernel) mwX6_passTicks rfl (Nat.le_of_ble_eq_true rfl) ?_
  show X G MX6_passTicks (rmD 5) 0 [(0, rf G 33 w), (1, .int (iI k))] [] (hp (m)) 0 0 (.inl none) (hp (m))
  refine x_iconst (pc := 0) dX6_passTicks_0 ?_
  refine x_istore_n (pc := 1) (lv' := [(2, _), (0, _), (1, _)]) dX6_passTicks_1 rfl (by decide) rfl ?_
  refine x_iload_n (pc := 2) dX6_passTicks_2 0 rfl ?_
  refine x_iload_n (pc := 3) dX6_passTicks_3 2 rfl ?_
  refine x_icmp_ge (pc := 4) 17 dX6_passTicks_4 (by decide) (by unfold inI; omega) hi (fun c_4 => ?_) (fun c_4 => (by exfalso; omega))
  exact y_vret (pc := 17) dX6_passTicks_17 rfl rfl

theorem ct_passTicksZ {G : GG} {m : Mem} {w : Nat} (hw : w < 5) (k : Int) (hi : inI k) (hP : BP m (pl w)) (hS : BS m (pl w) w) (ht : m 0 w 0 + k ≤ 11000) : Ct G MX6_passTicks (rmD 5) [rf G 33 w, .int (iI k)] (hp (m)) (.inl none) (hp (tkL m (pl w) w k.toNat)) := by
  by_cases h : 0 ≤ k
  · exact ct_passTicks hw k h hP hS ht
  · rw [Int.toNat_of_nonpos (by omega)]
    exact ct_passTicksN hw k (by omega) hi
theorem tkL_tb {p s : Nat} {n : Nat} {m : Mem} : tkL m p s n 0 s 0 = m 0 s 0 + n := tkL_t n m
theorem P_lacks0 {G : GG} {m : Mem} (hP : BP m 0) (hB : BS m 0 0) (hT : m 0 0 0 ≤ 9999) (hh0 : 0 ≤ m 36 0 0 ∧ m 36 0 0 ≤ 8) (hh1 : 0 ≤ m 36 0 1 ∧ m 36 0 1 < 8) {a0 : Int} (ha0 : inI a0) (h0 : 0 ≤ a0 ∧ a0 < m 1 0 0) (hz : m 14 0 a0 ≠ 0 ∨ 500 ≤ (m 12 0 a0 - m 0 0 0)) : Ct G MX7_lacks (rmD 9) [rf G 38 0, .int (iI a0)] (hp (m)) (.inl (some (.int (iI (-1))))) (hp (m)) := by
  refine x_entry (by decide +kernel) mwX7_lacks rfl (Nat.le_of_ble_eq_true rfl) ?_
  show X G MX7_lacks (rmD 9) 0 [(0, rf G 38 0), (1, .int (iI a0))] [] (hp (m)) 0 0 (.inl (some (.int (iI (-1))))) (hp (m))
  have n8 := hP.2.2.1
  have n4 := hP.2.2.2.1
  have n12 := hP.2.2.2.2.2.1
  have nc8 := hP.2.2.2.2.2.2.1
  have tb := hB.1
  have nt16 := hB.2.2.2.1.1
  have nl16 := hB.2.2.2.2.1.1
  have tbt := hB.2.2.2.1.2 a0 h0.1 h0.2
  have t1 := tbt.1
  have t2 := tbt.2.1
  have t4 := tbt.2.2.2
  refine x_aload_n (pc := 0) dX7_lacks_0 0 rfl ?_
  refine y_getR (pc := 1) dX7_lacks_1 flX7_15 rfl rfl rfl (by decide) ?_
  refine y_getR (pc := 4) (b := 0) dX7_lacks_4 flX7_93 rfl rfl rfl (by decide) ?_
  refine y_getR (pc := 7) dX7_lacks_7 flX7_97 rfl rfl rfl (by decide) ?_
  refine x_astore_n (pc := 10) (lv' := [(2, _), (0, _), (1, _)]) dX7_lacks_10 rfl (by decide) rfl ?_
  refine x_iload_n (pc := 11) dX7_lacks_11 2 rfl ?_
  refine x_aload_n (pc := 12) dX7_lacks_12 0 rfl ?_
  refine y_getI (pc := 13) 0 dX7_lacks_13 flX7_103 rfl rfl rfl (by decide) ?_
  refine x_callS (pc := 16) _ dX7_lacks_16 (ct_ckI ha0 (by unfold inI; omega) h0) lkX7_123 rfl (by decide) (Nat.le_of_ble_eq_true rfl) rfl ?_
  refine x_aload_n (pc := 19) dX7_lacks_19 0 rfl ?_
  refine y_getR (pc := 20) dX7_lacks_20 flX7_175 rfl rfl rfl (by decide) ?_
  refine x_iload_n (pc := 23) dX7_lacks_23 2 rfl ?_
  refine y_iald (pc := 24) dX7_lacks_24 rfl (by decide) (by omega) ?_
  refine x_aload_n (pc := 25) dX7_lacks_25 1 rfl ?_
  refine y_getR (pc := 26) dX7_lacks_26 flX7_15 rfl rfl rfl (by decide) ?_
  refine y_getR (pc := 29) (b := 0) dX7_lacks_29 flX7_93 rfl rfl rfl (by decide) ?_
  refine y_getI (pc := 32) 0 dX7_lacks_32 flX7_233 rfl rfl rfl (by decide) ?_
  refine x_isub (pc := 35) dX7_lacks_35 ?_
  refine x_istore_n (pc := 36) (lv' := [(3, _), (2, _), (0, _), (1, _)]) dX7_lacks_36 rfl (by decide) rfl ?_
  refine x_aload_n (pc := 37) dX7_lacks_37 1 rfl ?_
  refine y_getR (pc := 38) dX7_lacks_38 flX7_181 rfl rfl rfl (by decide) ?_
  refine x_iload_n (pc := 41) dX7_lacks_41 3 rfl ?_
  refine y_iald (pc := 42) dX7_lacks_42 rfl (by decide) (by omega) ?_
  refine x_if_ne (pc := 43) 53 dX7_lacks_43 (by decide) (by unfold inI; omega) (fun c_43 => ?_) (fun c_43 => ?_)
  · refine x_iconst (pc := 53) dX7_lacks_53 ?_
    exact y_iret (pc := 54) dX7_lacks_54 rfl rfl rfl
  · refine x_iload_n (pc := 46) dX7_lacks_46 0 rfl ?_
    refine x_sipush (pc := 47) (z := 500) dX7_lacks_47 (by decide) ?_
    refine x_icmp_lt (pc := 50) 55 dX7_lacks_50 (by decide) (by unfold inI; omega) (by unfold inI; omega) (fun c_50 => absurd c_50 (by omega)) (fun c_50 => ?_)
    refine x_iconst (pc := 53) dX7_lacks_53 ?_
    exact y_iret (pc := 54) dX7_lacks_54 rfl rfl rfl

theorem Px_lacks_0 {G : GG} {m : Mem} (hP : BP m 0) (hB : BS m 0 0) (hT : m 0 0 0 ≤ 9999) (hh0 : 0 ≤ m 36 0 0 ∧ m 36 0 0 ≤ 8) (hh1 : 0 ≤ m 36 0 1 ∧ m 36 0 1 < 8) {a0 : Int} (ha0 : inI a0)  (h0 : ¬ (0 ≤ a0 ∧ a0 < m 1 0 0)) : Ct G MX7_lacks (rmE 1) [rf G 38 0, .int (iI a0)] (hp (m)) (.inr ioE) (hp (m)) := by
  refine x_entry (by decide +kernel) mwX7_lacks rfl (Nat.le_of_ble_eq_true rfl) ?_
  show X G MX7_lacks (rmE 1) 0 [(0, rf G 38 0), (1, .int (iI a0))] [] (hp (m)) 0 0 (.inr ioE) (hp (m))
  have n8 := hP.2.2.1
  have n4 := hP.2.2.2.1
  have n12 := hP.2.2.2.2.2.1
  have nc8 := hP.2.2.2.2.2.2.1
  have tb := hB.1
  have nt16 := hB.2.2.2.1.1
  have nl16 := hB.2.2.2.2.1.1
  refine x_aload_n (pc := 0) dX7_lacks_0 0 rfl ?_
  refine y_getR (pc := 1) dX7_lacks_1 flX7_15 rfl rfl rfl (by decide) ?_
  refine y_getR (pc := 4) (b := 0) dX7_lacks_4 flX7_93 rfl rfl rfl (by decide) ?_
  refine y_getR (pc := 7) dX7_lacks_7 flX7_97 rfl rfl rfl (by decide) ?_
  refine x_astore_n (pc := 10) (lv' := [(2, _), (0, _), (1, _)]) dX7_lacks_10 rfl (by decide) rfl ?_
  refine x_iload_n (pc := 11) dX7_lacks_11 2 rfl ?_
  refine x_aload_n (pc := 12) dX7_lacks_12 0 rfl ?_
  refine y_getI (pc := 13) 0 dX7_lacks_13 flX7_103 rfl rfl rfl (by decide) ?_
  exact x_callSX (pc := 16) _ dX7_lacks_16 (ct_ckIx ha0 (by unfold inI; omega) h0) lkX7_123 rfl rfl (by decide) (Nat.le_of_ble_eq_true rfl) rfl

theorem P_lacks1 {G : GG} {m : Mem} (hP : BP m 0) (hB : BS m 0 0) (hT : m 0 0 0 ≤ 9999) (hh0 : 0 ≤ m 36 0 0 ∧ m 36 0 0 ≤ 8) (hh1 : 0 ≤ m 36 0 1 ∧ m 36 0 1 < 8) {a0 : Int} (ha0 : inI a0) (h0 : 0 ≤ a0 ∧ a0 < m 1 0 0) (hz : m 14 0 a0 = 0) (hz2 : (m 12 0 a0 - m 0 0 0) < 500) (hb : inI ((trL (shL (tkL (cpS m 0 1) 0 1 (m 12 0 a0 - m 0 0 0).toNat) 0 1 ((tkL (cpS m 0 1) 0 1 (m 12 0 a0 - m 0 0 0).toNat) 0 1 0 % 24) 0 (m 22 0 2).toNat) 0 1 0 a0.toNat) 13 0 a0 - (trL (shL (tkL (cpS m 0 1) 0 1 (m 12 0 a0 - m 0 0 0).toNat) 0 1 ((tkL (cpS m 0 1) 0 1 (m 12 0 a0 - m 0 0 0).toNat) 0 1 0 % 24) 0 (m 22 0 2).toNat) 0 1 0 a0.toNat) 3 1 (m 11 0 a0))) : Ct G MX7_lacks (rmD 9) [rf G 38 0, .int (iI a0)] (hp (m)) (.inl (some (.int (iI (max 0 ((trL (shL (tkL (cpS m 0 1) 0 1 (m 12 0 a0 - m 0 0 0).toNat) 0 1 ((tkL (cpS m 0 1) 0 1 (m 12 0 a0 - m 0 0 0).toNat) 0 1 0 % 24) 0 (m 22 0 2).toNat) 0 1 0 a0.toNat) 13 0 a0 - (trL (shL (tkL (cpS m 0 1) 0 1 (m 12 0 a0 - m 0 0 0).toNat) 0 1 ((tkL (cpS m 0 1) 0 1 (m 12 0 a0 - m 0 0 0).toNat) 0 1 0 % 24) 0 (m 22 0 2).toNat) 0 1 0 a0.toNat) 3 1 (m 11 0 a0))))))) (hp (trL (shL (tkL (cpS m 0 1) 0 1 (m 12 0 a0 - m 0 0 0).toNat) 0 1 ((tkL (cpS m 0 1) 0 1 (m 12 0 a0 - m 0 0 0).toNat) 0 1 0 % 24) 0 (m 22 0 2).toNat) 0 1 0 a0.toNat)) := by
  refine x_entry (by decide +kernel) mwX7_lacks rfl (Nat.le_of_ble_eq_true rfl) ?_
  show X G MX7_lacks (rmD 9) 0 [(0, rf G 38 0), (1, .int (iI a0))] [] (hp (m)) 0 0 (.inl (some (.int (iI (max 0 ((trL (shL (tkL (cpS m 0 1) 0 1 (m 12 0 a0 - m 0 0 0).toNat) 0 1 ((tkL (cpS m 0 1) 0 1 (m 12 0 a0 - m 0 0 0).toNat) 0 1 0 % 24) 0 (m 22 0 2).toNat) 0 1 0 a0.toNat) 13 0 a0 - (trL (shL (tkL (cpS m 0 1) 0 1 (m 12 0 a0 - m 0 0 0).toNat) 0 1 ((tkL (cpS m 0 1) 0 1 (m 12 0 a0 - m 0 0 0).toNat) 0 1 0 % 24) 0 (m 22 0 2).toNat) 0 1 0 a0.toNat) 3 1 (m 11 0 a0))))))) (hp (trL (shL (tkL (cpS m 0 1) 0 1 (m 12 0 a0 - m 0 0 0).toNat) 0 1 ((tkL (cpS m 0 1) 0 1 (m 12 0 a0 - m 0 0 0).toNat) 0 1 0 % 24) 0 (m 22 0 2).toNat) 0 1 0 a0.toNat))
  have n8 := hP.2.2.1
  have n4 := hP.2.2.2.1
  have n12 := hP.2.2.2.2.2.1
  have nc8 := hP.2.2.2.2.2.2.1
  have tb := hB.1
  have nt16 := hB.2.2.2.1.1
  have nl16 := hB.2.2.2.2.1.1
  have tbt := hB.2.2.2.1.2 a0 h0.1 h0.2
  have t1 := tbt.1
  have t2 := tbt.2.1
  have t4 := tbt.2.2.2
  refine x_aload_n (pc := 0) dX7_lacks_0 0 rfl ?_
  refine y_getR (pc := 1) dX7_lacks_1 flX7_15 rfl rfl rfl (by decide) ?_
  refine y_getR (pc := 4) (b := 0) dX7_lacks_4 flX7_93 rfl rfl rfl (by decide) ?_
  refine y_getR (pc := 7) dX7_lacks_7 flX7_97 rfl rfl rfl (by decide) ?_
  refine x_astore_n (pc := 10) (lv' := [(2, _), (0, _), (1, _)]) dX7_lacks_10 rfl (by decide) rfl ?_
  refine x_iload_n (pc := 11) dX7_lacks_11 2 rfl ?_
  refine x_aload_n (pc := 12) dX7_lacks_12 0 rfl ?_
  refine y_getI (pc := 13) 0 dX7_lacks_13 flX7_103 rfl rfl rfl (by decide) ?_
  refine x_callS (pc := 16) _ dX7_lacks_16 (ct_ckI ha0 (by unfold inI; omega) h0) lkX7_123 rfl (by decide) (Nat.le_of_ble_eq_true rfl) rfl ?_
  refine x_aload_n (pc := 19) dX7_lacks_19 0 rfl ?_
  refine y_getR (pc := 20) dX7_lacks_20 flX7_175 rfl rfl rfl (by decide) ?_
  refine x_iload_n (pc := 23) dX7_lacks_23 2 rfl ?_
  refine y_iald (pc := 24) dX7_lacks_24 rfl (by decide) (by omega) ?_
  refine x_aload_n (pc := 25) dX7_lacks_25 1 rfl ?_
  refine y_getR (pc := 26) dX7_lacks_26 flX7_15 rfl rfl rfl (by decide) ?_
  refine y_getR (pc := 29) (b := 0) dX7_lacks_29 flX7_93 rfl rfl rfl (by decide) ?_
  refine y_getI (pc := 32) 0 dX7_lacks_32 flX7_233 rfl rfl rfl (by decide) ?_
  refine x_isub (pc := 35) dX7_lacks_35 ?_
  refine x_istore_n (pc := 36) (lv' := [(3, _), (2, _), (0, _), (1, _)]) dX7_lacks_36 rfl (by decide) rfl ?_
  refine x_aload_n (pc := 37) dX7_lacks_37 1 rfl ?_
  refine y_getR (pc := 38) dX7_lacks_38 flX7_181 rfl rfl rfl (by decide) ?_
  refine x_iload_n (pc := 41) dX7_lacks_41 3 rfl ?_
  refine y_iald (pc := 42) dX7_lacks_42 rfl (by decide) (by omega) ?_
  refine x_if_ne (pc := 43) 53 dX7_lacks_43 (by decide) (by unfold inI; omega) (fun c_43 => absurd c_43 (fun z => z hz)) (fun c_43 => ?_)
  refine x_iload_n (pc := 46) dX7_lacks_46 0 rfl ?_
  refine x_sipush (pc := 47) (z := 500) dX7_lacks_47 (by decide) ?_
  refine x_icmp_lt (pc := 50) 55 dX7_lacks_50 (by decide) (by unfold inI; omega) (by unfold inI; omega) (fun c_50 => ?_) (fun c_50 => (by exfalso; omega))
  refine x_aload_n (pc := 55) dX7_lacks_55 2 rfl ?_
  refine y_getR (pc := 56) dX7_lacks_56 flX7_25 rfl rfl rfl (by decide) ?_
  refine y_getR (pc := 59) (b := 1) dX7_lacks_59 flX7_93 rfl rfl rfl (by decide) ?_
  refine x_aload_n (pc := 62) dX7_lacks_62 2 rfl ?_
  refine y_getR (pc := 63) dX7_lacks_63 flX7_15 rfl rfl rfl (by decide) ?_
  refine y_getR (pc := 66) (b := 0) dX7_lacks_66 flX7_93 rfl rfl rfl (by decide) ?_
  refine x_callV (pc := 69) _ dX7_lacks_69 (ct_State_copyFrom (a := 0) (b := 1) (by decide) (by decide) (by decide)) lkX7_296 rfl rfl rfl rfl (mem_dom0 (by decide) (by decide)) (by decide) (Nat.le_of_ble_eq_true rfl) rfl ?_
  have ff := fut_f hP hB
  have ft := fut_a (m := m) 0 0 (by decide)
  have f2 := fut_a (m := m) 2 0 (by decide)
  have f1 := fut_a (m := m) 1 0 (by decide)
  refine x_aload_n (pc := 72) dX7_lacks_72 2 rfl ?_
  refine y_getR (pc := 73) dX7_lacks_73 flX7_25 rfl rfl rfl (by decide) ?_
  refine x_iload_n (pc := 76) dX7_lacks_76 0 rfl ?_
  refine x_callV (pc := 77) _ dX7_lacks_77 (ct_passTicksZ (w := 1) (by decide) (m 12 0 a0 - m 0 0 0) (by unfold inI; omega) ff.1 ff.2 (by omega)) lkX7_290 rfl rfl rfl rfl (mem_dom0 (by decide) (by decide)) (by decide) (Nat.le_of_ble_eq_true rfl) rfl ?_
  refine x_nil (m' := tkL (cpS m 0 1) 0 1 (m 12 0 a0 - m 0 0 0).toNat) rfl ?_
  have g1 := tkL_f (p := 0) (s := 1) (m 12 0 a0 - m 0 0 0).toNat (cpS m 0 1) ff.1 ff.2 (by omega)
  have w1 : ∀ k, (tkL (cpS m 0 1) 0 1 (m 12 0 a0 - m 0 0 0).toNat) k 0 = m k 0 := fun k => fut_w
  have g22 : (tkL (cpS m 0 1) 0 1 (m 12 0 a0 - m 0 0 0).toNat) 22 0 2 = m 22 0 2 := by rw [w1]
  have gm : (tkL (cpS m 0 1) 0 1 (m 12 0 a0 - m 0 0 0).toNat) 1 1 0 = m 1 0 0 := fut_t (by omega)
  refine x_aload_n (pc := 80) dX7_lacks_80 2 rfl ?_
  refine y_getR (pc := 81) dX7_lacks_81 flX7_25 rfl rfl rfl (by decide) ?_
  refine x_callV (pc := 84) _ dX7_lacks_84 (ct_shine (w := 1) (by decide) g1.1 g1.2) lkX7_301 rfl rfl rfl rfl (mem_dom0 (by decide) (by decide)) (by decide) (Nat.le_of_ble_eq_true rfl) rfl ?_
  refine x_nil (m' := shL (tkL (cpS m 0 1) 0 1 (m 12 0 a0 - m 0 0 0).toNat) 0 1 ((tkL (cpS m 0 1) 0 1 (m 12 0 a0 - m 0 0 0).toNat) 0 1 0 % 24) 0 (m 22 0 2).toNat) (by rw [show (tkL (cpS m 0 1) 0 1 (m 12 0 a0 - m 0 0 0).toNat) 22 (pl 1) 2 = m 22 0 2 from g22]; rfl) ?_
  have g2 := BS_shL (p := 0) (s := 1) (hr := (tkL (cpS m 0 1) 0 1 (m 12 0 a0 - m 0 0 0).toNat) 0 1 0 % 24) (m 22 0 2).toNat (tkL (cpS m 0 1) 0 1 (m 12 0 a0 - m 0 0 0).toNat) 0 g1.1 g1.2 (by omega) (by omega)
  have w2 : ∀ k, (shL (tkL (cpS m 0 1) 0 1 (m 12 0 a0 - m 0 0 0).toNat) 0 1 ((tkL (cpS m 0 1) 0 1 (m 12 0 a0 - m 0 0 0).toNat) 0 1 0 % 24) 0 (m 22 0 2).toNat) k 0 = m k 0 := fun k => by rw [shL_i (by decide), w1]
  have gm2 : (shL (tkL (cpS m 0 1) 0 1 (m 12 0 a0 - m 0 0 0).toNat) 0 1 ((tkL (cpS m 0 1) 0 1 (m 12 0 a0 - m 0 0 0).toNat) 0 1 0 % 24) 0 (m 22 0 2).toNat) 1 1 0 = m 1 0 0 := by rw [shL_k (by decide) (by decide), gm]
  refine x_aload_n (pc := 87) dX7_lacks_87 2 rfl ?_
  refine y_getR (pc := 88) dX7_lacks_88 flX7_25 rfl rfl rfl (by decide) ?_
  refine x_iload_n (pc := 91) dX7_lacks_91 3 rfl ?_
  refine x_callV (pc := 92) _ dX7_lacks_92 (ct_makeTrips (w := 1) (by decide) a0 (by omega) g2.1 g2.2) lkX7_304 rfl rfl rfl rfl (mem_dom0 (by decide) (by decide)) (by decide) (Nat.le_of_ble_eq_true rfl) rfl ?_
  refine x_nil (m' := trL (shL (tkL (cpS m 0 1) 0 1 (m 12 0 a0 - m 0 0 0).toNat) 0 1 ((tkL (cpS m 0 1) 0 1 (m 12 0 a0 - m 0 0 0).toNat) 0 1 0 % 24) 0 (m 22 0 2).toNat) 0 1 0 a0.toNat) rfl ?_
  have w3 : ∀ k, (trL (shL (tkL (cpS m 0 1) 0 1 (m 12 0 a0 - m 0 0 0).toNat) 0 1 ((tkL (cpS m 0 1) 0 1 (m 12 0 a0 - m 0 0 0).toNat) 0 1 0 % 24) 0 (m 22 0 2).toNat) 0 1 0 a0.toNat) k 0 = m k 0 := fun k => by rw [trL_i (by decide), w2]
  have i11 : (trL (shL (tkL (cpS m 0 1) 0 1 (m 12 0 a0 - m 0 0 0).toNat) 0 1 ((tkL (cpS m 0 1) 0 1 (m 12 0 a0 - m 0 0 0).toNat) 0 1 0 % 24) 0 (m 22 0 2).toNat) 0 1 0 a0.toNat) 11 0 a0 = m 11 0 a0 := by rw [w3]
  refine x_iconst (pc := 95) dX7_lacks_95 ?_
  refine x_aload_n (pc := 96) dX7_lacks_96 1 rfl ?_
  refine y_getR (pc := 97) dX7_lacks_97 flX7_178 rfl rfl rfl (by decide) ?_
  refine x_iload_n (pc := 100) dX7_lacks_100 3 rfl ?_
  refine y_iald (pc := 101) dX7_lacks_101 rfl (by decide) (by omega) ?_
  refine x_aload_n (pc := 102) dX7_lacks_102 2 rfl ?_
  refine y_getR (pc := 103) dX7_lacks_103 flX7_25 rfl rfl rfl (by decide) ?_
  refine y_getR (pc := 106) (b := 1) dX7_lacks_106 flX7_93 rfl rfl rfl (by decide) ?_
  refine y_getR (pc := 109) dX7_lacks_109 flX7_135 rfl rfl rfl (by decide) ?_
  refine x_aload_n (pc := 112) dX7_lacks_112 1 rfl ?_
  refine y_getR (pc := 113) dX7_lacks_113 flX7_172 rfl rfl rfl (by decide) ?_
  refine x_iload_n (pc := 116) dX7_lacks_116 3 rfl ?_
  refine y_iald (pc := 117) dX7_lacks_117 rfl (by decide) (by omega) ?_
  refine y_iald (pc := 118) dX7_lacks_118 rfl (by decide) (by omega) ?_
  refine x_isub (pc := 119) dX7_lacks_119 ?_
  refine x_max (pc := 120) dX7_lacks_120 lmX7_307 (by unfold inI; omega) (by rw [i11]; exact hb) (by decide) (Nat.le_of_ble_eq_true rfl) (by decide) (by decide) ?_
  exact y_iret (pc := 123) dX7_lacks_123 rfl (by rw [i11]) rfl
