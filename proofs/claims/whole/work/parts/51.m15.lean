def dpL (N : Int → Int) (j : Int) : Nat → Int → Int
  | 0 => N
  | n + 1 => dpL (upN N (206 + j) (N (206 + j + 4))) (j + 1) n
def dpN (N : Int → Int) (t : Int) : Int → Int := dpL (upN N 7 (N 7 - 1)) (4 * t) (4 * (N 7 - 1) - 4 * t).toNat
theorem lp_drop {G : GG} {m : Mem} (a k7 : Int) (hk : 0 ≤ k7 ∧ k7 ≤ 16) (N9 : Int → Int) : ∀ (n : Nat) (N : Int → Int) (j : Int), N 7 = k7 → 0 ≤ j → j + n = 4 * k7 → N9 = dpL N j n → X G MX8_dropTrip (rmD 9) 46 [(2, .int (iI j)), (0, rf G 41 0), (1, .int (iI a))] [] (hp (sr m N)) 0 0 (.inl (some (.int (iI (N9 7))))) (hp (sr m N9)) := by
  intro n
  induction n with
  | zero =>
    intro N j h7 h0 h1 h9
    refine x_iload_n (pc := 46) dX8_dropTrip_46 0 rfl ?_
    refine x_iconst (pc := 47) dX8_dropTrip_47 ?_
    refine x_aload_n (pc := 48) dX8_dropTrip_48 1 rfl ?_
    refine y_getR (pc := 49) dX8_dropTrip_49 flX8_9 rfl rfl rfl (by decide) ?_
    refine x_bipush (pc := 52) (z := 7) dX8_dropTrip_52 (by decide) ?_
    refine y_nald (pc := 54) dX8_dropTrip_54 (by omega) ?_
    refine x_imul (pc := 55) dX8_dropTrip_55 ?_
    refine x_icmp_ge (pc := 56) 87 dX8_dropTrip_56 (by decide) (by unfold inI; omega) (by unfold inI; omega) (fun c_56 => ?_) (fun c_56 => (by exfalso; omega))
    refine x_aload_n (pc := 87) dX8_dropTrip_87 1 rfl ?_
    refine y_getR (pc := 88) dX8_dropTrip_88 flX8_9 rfl rfl rfl (by decide) ?_
    refine x_bipush (pc := 91) (z := 7) dX8_dropTrip_91 (by decide) ?_
    refine y_nald (pc := 93) dX8_dropTrip_93 (by omega) ?_
    exact y_iret (pc := 94) dX8_dropTrip_94 rfl (by rw [h9]; rfl) (by rw [h9]; rfl)
  | succ n ih =>
    intro N j h7 h0 h1 h9
    refine x_iload_n (pc := 46) dX8_dropTrip_46 0 rfl ?_
    refine x_iconst (pc := 47) dX8_dropTrip_47 ?_
    refine x_aload_n (pc := 48) dX8_dropTrip_48 1 rfl ?_
    refine y_getR (pc := 49) dX8_dropTrip_49 flX8_9 rfl rfl rfl (by decide) ?_
    refine x_bipush (pc := 52) (z := 7) dX8_dropTrip_52 (by decide) ?_
    refine y_nald (pc := 54) dX8_dropTrip_54 (by omega) ?_
    refine x_imul (pc := 55) dX8_dropTrip_55 ?_
    refine x_icmp_ge (pc := 56) 87 dX8_dropTrip_56 (by decide) (by unfold inI; omega) (by unfold inI; omega) (fun c_56 => (by exfalso; omega)) (fun c_56 => ?_)
    refine x_aload_n (pc := 59) dX8_dropTrip_59 1 rfl ?_
    refine y_getR (pc := 60) dX8_dropTrip_60 flX8_9 rfl rfl rfl (by decide) ?_
    refine x_sipush (pc := 63) (z := 206) dX8_dropTrip_63 (by decide) ?_
    refine x_iload_n (pc := 66) dX8_dropTrip_66 0 rfl ?_
    refine x_iadd (pc := 67) dX8_dropTrip_67 ?_
    refine x_aload_n (pc := 68) dX8_dropTrip_68 1 rfl ?_
    refine y_getR (pc := 69) dX8_dropTrip_69 flX8_9 rfl rfl rfl (by decide) ?_
    refine x_sipush (pc := 72) (z := 206) dX8_dropTrip_72 (by decide) ?_
    refine x_iload_n (pc := 75) dX8_dropTrip_75 0 rfl ?_
    refine x_iadd (pc := 76) dX8_dropTrip_76 ?_
    refine x_iconst (pc := 77) dX8_dropTrip_77 ?_
    refine x_iadd (pc := 78) dX8_dropTrip_78 ?_
    refine y_nald (pc := 79) dX8_dropTrip_79 (by omega) ?_
    refine y_nast (pc := 80) dX8_dropTrip_80 (by omega) ?_
    refine x_iinc (pc := 81) (lv' := [(2, _), (0, _), (1, _)]) dX8_dropTrip_81 0 rfl (by decide) rfl ?_
    refine x_goto (pc := 84) 46 dX8_dropTrip_84 (by decide) ?_
    exact x_lv [0, 1, 2] rfl (ih _ (j + 1) (by rw [upN_off (by omega)]; exact h7) (by omega) (by omega) (by rw [h9]; rfl))

theorem Q_dropTrip0 {G : GG} {m : Mem} {N : Int → Int} (hF : NF N) {a0 : Int} (ha0 : inI a0) (h0 : 0 ≤ a0 ∧ a0 < N 7) (hi : inI (N (206 + 4 * a0 + 3))) (hz : N (206 + 4 * a0 + 3) ≠ 0) : Ct G MX8_dropTrip (rmD 9) [rf G 41 0, .int (iI a0)] (hp (sr m N)) (.inl (some (.int (iI (-3))))) (hp (sr (thr m 0) N)) := by
  refine x_entry (by decide +kernel) mwX8_dropTrip rfl (Nat.le_of_ble_eq_true rfl) ?_
  show X G MX8_dropTrip (rmD 9) 0 [(0, rf G 41 0), (1, .int (iI a0))] [] (hp (sr m N)) 0 0 (.inl (some (.int (iI (-3))))) (hp (sr (thr m 0) N))
  have n8 := hF.1
  have n16 := hF.2.1
  have nc8 := hF.2.2.1
  have nl16 := hF.2.2.2.1.1
  refine x_aload_n (pc := 0) dX8_dropTrip_0 0 rfl ?_
  refine x_aload_n (pc := 1) dX8_dropTrip_1 0 rfl ?_
  refine x_iload_n (pc := 2) dX8_dropTrip_2 1 rfl ?_
  refine x_callV (pc := 3) _ dX8_dropTrip_3 (mq_isTrip a0 ha0 (by omega)) lkX8_245 rfl rfl rfl rfl (mem_dom0 (by decide) (by decide)) (by decide) (Nat.le_of_ble_eq_true rfl) rfl ?_
  refine x_iconst (pc := 6) dX8_dropTrip_6 ?_
  refine x_callV (pc := 7) _ dX8_dropTrip_7 (mq_isThrown (b := 0 ≤ a0 ∧ a0 < N 7) 1) lkX8_227 rfl rfl rfl rfl (mem_dom0 (by decide) (by decide)) (by decide) (Nat.le_of_ble_eq_true rfl) rfl ?_
  refine x_nil (m' := sr (thr m 0) N) (by rw [if_pos h0]) ?_
  refine x_ifb_eq (pc := 10) 15 dX8_dropTrip_10 (by decide) (fun c_10 => ?_) (fun c_10 => absurd c_10 (fun z => z h0))
  refine x_aload_n (pc := 15) dX8_dropTrip_15 0 rfl ?_
  refine x_iload_n (pc := 16) dX8_dropTrip_16 1 rfl ?_
  refine x_iconst (pc := 17) dX8_dropTrip_17 ?_
  refine x_callV (pc := 18) _ dX8_dropTrip_18 (mq_ofTrip a0 3 (by omega)) lkX8_248 rfl rfl rfl rfl (mem_dom0 (by decide) (by decide)) (by decide) (Nat.le_of_ble_eq_true rfl) rfl ?_
  refine x_if_eq (pc := 21) 27 dX8_dropTrip_21 (by decide) hi (fun c_21 => absurd c_21 hz) (fun c_21 => ?_)
  refine x_bipush (pc := 24) (z := (-3)) dX8_dropTrip_24 (by decide) ?_
  exact y_iret (pc := 26) dX8_dropTrip_26 rfl rfl rfl

theorem Qx_dropTrip_0 {G : GG} {m : Mem} {N : Int → Int} (hF : NF N) {a0 : Int} (ha0 : inI a0)  (h0 : ¬ (0 ≤ a0 ∧ a0 < N 7)) : Ct G MX8_dropTrip (rmD 9) [rf G 41 0, .int (iI a0)] (hp (sr m N)) (.inl (some (.int (iI (0))))) (hp (sr (thr m 1) N)) := by
  refine x_entry (by decide +kernel) mwX8_dropTrip rfl (Nat.le_of_ble_eq_true rfl) ?_
  show X G MX8_dropTrip (rmD 9) 0 [(0, rf G 41 0), (1, .int (iI a0))] [] (hp (sr m N)) 0 0 (.inl (some (.int (iI (0))))) (hp (sr (thr m 1) N))
  have n8 := hF.1
  have n16 := hF.2.1
  have nc8 := hF.2.2.1
  have nl16 := hF.2.2.2.1.1
  refine x_aload_n (pc := 0) dX8_dropTrip_0 0 rfl ?_
  refine x_aload_n (pc := 1) dX8_dropTrip_1 0 rfl ?_
  refine x_iload_n (pc := 2) dX8_dropTrip_2 1 rfl ?_
  refine x_callV (pc := 3) _ dX8_dropTrip_3 (mq_isTrip a0 ha0 (by omega)) lkX8_245 rfl rfl rfl rfl (mem_dom0 (by decide) (by decide)) (by decide) (Nat.le_of_ble_eq_true rfl) rfl ?_
  refine x_iconst (pc := 6) dX8_dropTrip_6 ?_
  refine x_callV (pc := 7) _ dX8_dropTrip_7 (mq_isThrown (b := 0 ≤ a0 ∧ a0 < N 7) 1) lkX8_227 rfl rfl rfl rfl (mem_dom0 (by decide) (by decide)) (by decide) (Nat.le_of_ble_eq_true rfl) rfl ?_
  refine x_nil (m' := sr (thr m 1) N) (by rw [if_neg h0]) ?_
  refine x_ifb_eq (pc := 10) 15 dX8_dropTrip_10 (by decide) (fun c_10 => absurd c_10 (fun z => z h0)) (fun c_10 => ?_)
  refine x_iconst (pc := 13) dX8_dropTrip_13 ?_
  exact y_iret (pc := 14) dX8_dropTrip_14 rfl rfl rfl

theorem Q_dropTrip1 {G : GG} {m : Mem} {N : Int → Int} (hF : NF N) {a0 : Int} (ha0 : inI a0) (h0 : 0 ≤ a0 ∧ a0 < N 7) (hm : 0 ≤ m 41 0 6 ∧ m 41 0 6 ≤ 8) (hi : inI (N (206 + 4 * a0 + 3))) (hz : N (206 + 4 * a0 + 3) = 0) : Ct G MX8_dropTrip (rmD 9) [rf G 41 0, .int (iI a0)] (hp (sr m N)) (.inl (some (.int (iI (dpN N a0 7))))) (hp (sr (KM (thr m 0) N) (dpN N a0))) := by
  refine x_entry (by decide +kernel) mwX8_dropTrip rfl (Nat.le_of_ble_eq_true rfl) ?_
  show X G MX8_dropTrip (rmD 9) 0 [(0, rf G 41 0), (1, .int (iI a0))] [] (hp (sr m N)) 0 0 (.inl (some (.int (iI (dpN N a0 7))))) (hp (sr (KM (thr m 0) N) (dpN N a0)))
  have n8 := hF.1
  have n16 := hF.2.1
  have nc8 := hF.2.2.1
  have nl16 := hF.2.2.2.1.1
  refine x_aload_n (pc := 0) dX8_dropTrip_0 0 rfl ?_
  refine x_aload_n (pc := 1) dX8_dropTrip_1 0 rfl ?_
  refine x_iload_n (pc := 2) dX8_dropTrip_2 1 rfl ?_
  refine x_callV (pc := 3) _ dX8_dropTrip_3 (mq_isTrip a0 ha0 (by omega)) lkX8_245 rfl rfl rfl rfl (mem_dom0 (by decide) (by decide)) (by decide) (Nat.le_of_ble_eq_true rfl) rfl ?_
  refine x_iconst (pc := 6) dX8_dropTrip_6 ?_
  refine x_callV (pc := 7) _ dX8_dropTrip_7 (mq_isThrown (b := 0 ≤ a0 ∧ a0 < N 7) 1) lkX8_227 rfl rfl rfl rfl (mem_dom0 (by decide) (by decide)) (by decide) (Nat.le_of_ble_eq_true rfl) rfl ?_
  refine x_nil (m' := sr (thr m 0) N) (by rw [if_pos h0]) ?_
  refine x_ifb_eq (pc := 10) 15 dX8_dropTrip_10 (by decide) (fun c_10 => ?_) (fun c_10 => absurd c_10 (fun z => z h0))
  refine x_aload_n (pc := 15) dX8_dropTrip_15 0 rfl ?_
  refine x_iload_n (pc := 16) dX8_dropTrip_16 1 rfl ?_
  refine x_iconst (pc := 17) dX8_dropTrip_17 ?_
  refine x_callV (pc := 18) _ dX8_dropTrip_18 (mq_ofTrip a0 3 (by omega)) lkX8_248 rfl rfl rfl rfl (mem_dom0 (by decide) (by decide)) (by decide) (Nat.le_of_ble_eq_true rfl) rfl ?_
  refine x_if_eq (pc := 21) 27 dX8_dropTrip_21 (by decide) hi (fun c_21 => ?_) (fun c_21 => absurd c_21 (fun z => z hz))
  refine x_aload_n (pc := 27) dX8_dropTrip_27 0 rfl ?_
  refine x_callV (pc := 28) _ dX8_dropTrip_28 (mq_keepsN (m := thr m 0) (by rw [thr_6]; exact hm)) lkX8_341 rfl rfl rfl rfl (mem_dom0 (by decide) (by decide)) (by decide) (Nat.le_of_ble_eq_true rfl) rfl ?_
  refine x_nil (m' := sr (KM (thr m 0) N) N) rfl ?_
  refine x_aload_n (pc := 31) dX8_dropTrip_31 0 rfl ?_
  refine y_getR (pc := 32) dX8_dropTrip_32 flX8_9 rfl rfl rfl (by decide) ?_
  refine x_bipush (pc := 35) (z := 7) dX8_dropTrip_35 (by decide) ?_
  refine x_dup2 (pc := 37) dX8_dropTrip_37 rfl rfl ?_
  refine y_nald (pc := 38) dX8_dropTrip_38 (by omega) ?_
  refine x_iconst (pc := 39) dX8_dropTrip_39 ?_
  refine x_isub (pc := 40) dX8_dropTrip_40 ?_
  refine y_nast (pc := 41) dX8_dropTrip_41 (by omega) ?_
  refine x_iconst (pc := 42) dX8_dropTrip_42 ?_
  refine x_iload_n (pc := 43) dX8_dropTrip_43 1 rfl ?_
  refine x_imul (pc := 44) dX8_dropTrip_44 ?_
  refine x_istore_n (pc := 45) (lv' := [(2, _), (0, _), (1, _)]) dX8_dropTrip_45 rfl (by decide) rfl ?_
  exact x_lv [0, 1, 2] rfl (lp_drop a0 (N 7 - 1) (by omega) _ (4 * (N 7 - 1) - 4 * a0).toNat (upN N 7 (N 7 - 1)) (4 * a0) (upN_at _ _ _) (by omega) (by omega) rfl)
