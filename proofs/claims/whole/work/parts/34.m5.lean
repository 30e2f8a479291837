def thr (m : Mem) (k : Int) : Mem := up3 m 41 0 7 k
theorem mq_isThrown {G : GG} {m : Mem} {N : Int → Int} {b : Prop} [Decidable b] (k : Int) : Ct G MX8_isThrown (rmD 0) [rf G 41 0, .int (iI (if b then 1 else 0)), .int (iI k)] (hp (sr m N)) (.inl (some (.int (iI (if ¬ b then 1 else 0))))) (hp (sr (thr m (if b then 0 else k)) N)) := by
  refine x_entry (by decide +kernel) mwX8_isThrown rfl (Nat.le_of_ble_eq_true rfl) ?_
  show X G MX8_isThrown (rmD 0) 0 [(0, rf G 41 0), (1, .int (iI (if b then 1 else 0))), (2, .int (iI k))] [] (hp (sr m N)) 0 0 (.inl (some (.int (iI (if ¬ b then 1 else 0))))) (hp (sr (thr m (if b then 0 else k)) N))
  refine x_aload_n (pc := 0) dX8_isThrown_0 0 rfl ?_
  refine x_iload_n (pc := 1) dX8_isThrown_1 1 rfl ?_
  refine x_ifb_eq (pc := 2) 9 dX8_isThrown_2 (by decide) (fun c_2 => ?_) (fun c_2 => ?_)
  · refine x_iload_n (pc := 9) dX8_isThrown_9 2 rfl ?_
    refine y_putM (pc := 10) 7 dX8_isThrown_10 fwX8_41 rfl rfl rfl ?_
    refine x_iload_n (pc := 13) dX8_isThrown_13 1 rfl ?_
    refine x_ifb_ne (pc := 14) 21 dX8_isThrown_14 (by decide) (fun c_14 => absurd c_14 c_2) (fun c_14 => ?_)
    refine x_iconst (pc := 17) dX8_isThrown_17 ?_
    refine x_goto (pc := 18) 22 dX8_isThrown_18 (by decide) ?_
    exact y_z1ret (pc := 22) dX8_isThrown_22 rfl c_2 (by rw [if_neg c_2]; rfl)
  · refine x_iconst (pc := 5) dX8_isThrown_5 ?_
    refine x_goto (pc := 6) 10 dX8_isThrown_6 (by decide) ?_
    refine y_putM (pc := 10) 7 dX8_isThrown_10 fwX8_41 rfl rfl rfl ?_
    refine x_iload_n (pc := 13) dX8_isThrown_13 1 rfl ?_
    refine x_ifb_ne (pc := 14) 21 dX8_isThrown_14 (by decide) (fun c_14 => ?_) (fun c_14 => absurd c_14 (fun z => z c_2))
    refine x_iconst (pc := 21) dX8_isThrown_21 ?_
    exact y_z0ret (pc := 22) dX8_isThrown_22 rfl (fun z => z c_2) (by rw [if_pos c_2]; rfl)

theorem mq_isPack {G : GG} {m : Mem} {N : Int → Int} (q : Int) (hq : inI q) (hn : 0 ≤ N 3 ∧ N 3 ≤ 100) : Ct G MX8_isPack (rmD 1) [rf G 41 0, .int (iI q)] (hp (sr m N)) (.inl (some (.int (iI (if 0 ≤ q ∧ q < N 3 then 1 else 0))))) (hp (sr m N)) := by
  refine x_entry (by decide +kernel) mwX8_isPack rfl (Nat.le_of_ble_eq_true rfl) ?_
  show X G MX8_isPack (rmD 1) 0 [(0, rf G 41 0), (1, .int (iI q))] [] (hp (sr m N)) 0 0 (.inl (some (.int (iI (if 0 ≤ q ∧ q < N 3 then 1 else 0))))) (hp (sr m N))
  refine x_iload_n (pc := 0) dX8_isPack_0 1 rfl ?_
  refine x_i2l (pc := 1) dX8_isPack_1 hq ?_
  refine x_lconst (pc := 2) (z := 0) dX8_isPack_2 (by decide) ?_
  refine x_aload_n (pc := 3) dX8_isPack_3 0 rfl ?_
  refine y_getR (pc := 4) dX8_isPack_4 flX8_9 rfl rfl rfl (by decide) ?_
  refine x_iconst (pc := 7) dX8_isPack_7 ?_
  refine y_nald (pc := 8) dX8_isPack_8 (by omega) ?_
  refine x_iconst (pc := 9) dX8_isPack_9 ?_
  refine x_isub (pc := 10) dX8_isPack_10 ?_
  refine x_i2l (pc := 11) dX8_isPack_11 (by unfold inI; omega) ?_
  refine x_callS (pc := 12) _ dX8_isPack_12 (mq_in q 0 (N 3 - 1) (by unfold inL; unfold inI at hq; omega) (by unfold inL; omega) (by unfold inL; omega)) lkX8_44 rfl (by decide) (Nat.le_of_ble_eq_true rfl) rfl ?_
  exact y_zret (pc := 15) dX8_isPack_15 rfl (by omega) rfl

theorem mq_isTrip {G : GG} {m : Mem} {N : Int → Int} (q : Int) (hq : inI q) (hn : 0 ≤ N 7 ∧ N 7 ≤ 100) : Ct G MX8_isTrip (rmD 1) [rf G 41 0, .int (iI q)] (hp (sr m N)) (.inl (some (.int (iI (if 0 ≤ q ∧ q < N 7 then 1 else 0))))) (hp (sr m N)) := by
  refine x_entry (by decide +kernel) mwX8_isTrip rfl (Nat.le_of_ble_eq_true rfl) ?_
  show X G MX8_isTrip (rmD 1) 0 [(0, rf G 41 0), (1, .int (iI q))] [] (hp (sr m N)) 0 0 (.inl (some (.int (iI (if 0 ≤ q ∧ q < N 7 then 1 else 0))))) (hp (sr m N))
  refine x_iload_n (pc := 0) dX8_isTrip_0 1 rfl ?_
  refine x_i2l (pc := 1) dX8_isTrip_1 hq ?_
  refine x_lconst (pc := 2) (z := 0) dX8_isTrip_2 (by decide) ?_
  refine x_aload_n (pc := 3) dX8_isTrip_3 0 rfl ?_
  refine y_getR (pc := 4) dX8_isTrip_4 flX8_9 rfl rfl rfl (by decide) ?_
  refine x_bipush (pc := 7) (z := 7) dX8_isTrip_7 (by decide) ?_
  refine y_nald (pc := 9) dX8_isTrip_9 (by omega) ?_
  refine x_iconst (pc := 10) dX8_isTrip_10 ?_
  refine x_isub (pc := 11) dX8_isTrip_11 ?_
  refine x_i2l (pc := 12) dX8_isTrip_12 (by unfold inI; omega) ?_
  refine x_callS (pc := 13) _ dX8_isTrip_13 (mq_in q 0 (N 7 - 1) (by unfold inL; unfold inI at hq; omega) (by unfold inL; omega) (by unfold inL; omega)) lkX8_44 rfl (by decide) (Nat.le_of_ble_eq_true rfl) rfl ?_
  exact y_zret (pc := 16) dX8_isTrip_16 rfl (by omega) rfl

theorem mq_isContract {G : GG} {m : Mem} {N : Int → Int} (q : Int) (hq : inI q) (hn : 0 ≤ N 8 ∧ N 8 ≤ 100) : Ct G MX8_isContract (rmD 1) [rf G 41 0, .int (iI q)] (hp (sr m N)) (.inl (some (.int (iI (if 0 ≤ q ∧ q < N 8 then 1 else 0))))) (hp (sr m N)) := by
  refine x_entry (by decide +kernel) mwX8_isContract rfl (Nat.le_of_ble_eq_true rfl) ?_
  show X G MX8_isContract (rmD 1) 0 [(0, rf G 41 0), (1, .int (iI q))] [] (hp (sr m N)) 0 0 (.inl (some (.int (iI (if 0 ≤ q ∧ q < N 8 then 1 else 0))))) (hp (sr m N))
  refine x_iload_n (pc := 0) dX8_isContract_0 1 rfl ?_
  refine x_i2l (pc := 1) dX8_isContract_1 hq ?_
  refine x_lconst (pc := 2) (z := 0) dX8_isContract_2 (by decide) ?_
  refine x_aload_n (pc := 3) dX8_isContract_3 0 rfl ?_
  refine y_getR (pc := 4) dX8_isContract_4 flX8_9 rfl rfl rfl (by decide) ?_
  refine x_bipush (pc := 7) (z := 8) dX8_isContract_7 (by decide) ?_
  refine y_nald (pc := 9) dX8_isContract_9 (by omega) ?_
  refine x_iconst (pc := 10) dX8_isContract_10 ?_
  refine x_isub (pc := 11) dX8_isContract_11 ?_
  refine x_i2l (pc := 12) dX8_isContract_12 (by unfold inI; omega) ?_
  refine x_callS (pc := 13) _ dX8_isContract_13 (mq_in q 0 (N 8 - 1) (by unfold inL; unfold inI at hq; omega) (by unfold inL; omega) (by unfold inL; omega)) lkX8_44 rfl (by decide) (Nat.le_of_ble_eq_true rfl) rfl ?_
  exact y_zret (pc := 16) dX8_isContract_16 rfl (by omega) rfl

theorem mq_isLoan {G : GG} {m : Mem} {N : Int → Int} (q : Int) (hq : inI q) (hn : 0 ≤ N 9 ∧ N 9 ≤ 100) : Ct G MX8_isLoan (rmD 1) [rf G 41 0, .int (iI q)] (hp (sr m N)) (.inl (some (.int (iI (if 0 ≤ q ∧ q < N 9 then 1 else 0))))) (hp (sr m N)) := by
  refine x_entry (by decide +kernel) mwX8_isLoan rfl (Nat.le_of_ble_eq_true rfl) ?_
  show X G MX8_isLoan (rmD 1) 0 [(0, rf G 41 0), (1, .int (iI q))] [] (hp (sr m N)) 0 0 (.inl (some (.int (iI (if 0 ≤ q ∧ q < N 9 then 1 else 0))))) (hp (sr m N))
  refine x_iload_n (pc := 0) dX8_isLoan_0 1 rfl ?_
  refine x_i2l (pc := 1) dX8_isLoan_1 hq ?_
  refine x_lconst (pc := 2) (z := 0) dX8_isLoan_2 (by decide) ?_
  refine x_aload_n (pc := 3) dX8_isLoan_3 0 rfl ?_
  refine y_getR (pc := 4) dX8_isLoan_4 flX8_9 rfl rfl rfl (by decide) ?_
  refine x_bipush (pc := 7) (z := 9) dX8_isLoan_7 (by decide) ?_
  refine y_nald (pc := 9) dX8_isLoan_9 (by omega) ?_
  refine x_iconst (pc := 10) dX8_isLoan_10 ?_
  refine x_isub (pc := 11) dX8_isLoan_11 ?_
  refine x_i2l (pc := 12) dX8_isLoan_12 (by unfold inI; omega) ?_
  refine x_callS (pc := 13) _ dX8_isLoan_13 (mq_in q 0 (N 9 - 1) (by unfold inL; unfold inI at hq; omega) (by unfold inL; omega) (by unfold inL; omega)) lkX8_44 rfl (by decide) (Nat.le_of_ble_eq_true rfl) rfl ?_
  exact y_zret (pc := 16) dX8_isLoan_16 rfl (by omega) rfl

theorem mq_isAmount {G : GG} {m : Mem} (q : Int) (hq : inI q) : Ct G MX8_isAmount (rmD 1) [.int (iI q)] (hp (m)) (.inl (some (.int (iI (if 1 ≤ q ∧ q ≤ 100000 then 1 else 0))))) (hp (m)) := by
  refine x_entry (by decide +kernel) mwX8_isAmount rfl (Nat.le_of_ble_eq_true rfl) ?_
  show X G MX8_isAmount (rmD 1) 0 [(0, .int (iI q))] [] (hp (m)) 0 0 (.inl (some (.int (iI (if 1 ≤ q ∧ q ≤ 100000 then 1 else 0))))) (hp (m))
  refine x_iload_n (pc := 0) dX8_isAmount_0 0 rfl ?_
  refine x_i2l (pc := 1) dX8_isAmount_1 hq ?_
  refine x_lconst (pc := 2) (z := 1) dX8_isAmount_2 (by decide) ?_
  refine x_ldc2 (pc := 3) (z := 100000) dX8_isAmount_3 kcX8_48 (by decide) ?_
  refine x_callS (pc := 6) _ dX8_isAmount_6 (mq_in q 1 100000 (by unfold inL; unfold inI at hq; omega) (by unfold inL; omega) (by unfold inL; omega)) lkX8_44 rfl (by decide) (Nat.le_of_ble_eq_true rfl) rfl ?_
  exact y_zret (pc := 9) dX8_isAmount_9 rfl (by omega) rfl

theorem mq_areTicks {G : GG} {m : Mem} (q : Int) (hq : inI q) : Ct G MX8_areTicks (rmD 1) [.int (iI q)] (hp (m)) (.inl (some (.int (iI (if 1 ≤ q ∧ q ≤ 500 then 1 else 0))))) (hp (m)) := by
  refine x_entry (by decide +kernel) mwX8_areTicks rfl (Nat.le_of_ble_eq_true rfl) ?_
  show X G MX8_areTicks (rmD 1) 0 [(0, .int (iI q))] [] (hp (m)) 0 0 (.inl (some (.int (iI (if 1 ≤ q ∧ q ≤ 500 then 1 else 0))))) (hp (m))
  refine x_iload_n (pc := 0) dX8_areTicks_0 0 rfl ?_
  refine x_i2l (pc := 1) dX8_areTicks_1 hq ?_
  refine x_lconst (pc := 2) (z := 1) dX8_areTicks_2 (by decide) ?_
  refine x_ldc2 (pc := 3) (z := 500) dX8_areTicks_3 kcX8_369 (by decide) ?_
  refine x_callS (pc := 6) _ dX8_areTicks_6 (mq_in q 1 500 (by unfold inL; unfold inI at hq; omega) (by unfold inL; omega) (by unfold inL; omega)) lkX8_44 rfl (by decide) (Nat.le_of_ble_eq_true rfl) rfl ?_
  exact y_zret (pc := 9) dX8_areTicks_9 rfl (by omega) rfl

def openFN (N : Int → Int) (c l : Int) : Int := if N (318 + 7 * l + 5) ≤ 2 ∧ (c = -1 ∨ N (318 + 7 * l + 0) = c) then 1 else 0
def sumFN (N : Int → Int) (c w l : Int) : Int := if N (318 + 7 * l + 0) = c then N (318 + 7 * l + w) else 0
def owedFN (N : Int → Int) (q w l : Int) : Int := if N (270 + 6 * N (318 + 7 * l + 0) + w) = q then owedN N l else 0
def outFN (N : Int → Int) (c l : Int) : Int := if N (318 + 7 * l + 0) = c then owedN N l + (if N (318 + 7 * l + 5) = 0 then N (318 + 7 * l + 1) - N (318 + 7 * l + 2) else 0) else 0
/-- what the model's sums over loans want -/
def LNs (N : Int → Int) : Prop := (0 ≤ N 9 ∧ N 9 ≤ 16) ∧ ∀ l, 0 ≤ l → l < N 9 → LN N l
theorem lp_openMany {G : GG} {m : Mem} {N : Int → Int} (c : Int) (hc : inI c) (hL : LNs N) : ∀ (n : Nat) (i a : Int), i + n = N 9 → 0 ≤ i → a = sm (openFN N c) i.toNat → X G MX8_openMany (rmD 2) 4 [(0, rf G 41 0), (1, .int (iI c)), (2, .int (iI a)), (3, .int (iI i))] [] (hp (sr m N)) 0 0 (.inl (some (.int (iI (sm (openFN N c) (N 9).toNat))))) (hp (sr m N)) := by
  intro n
  induction n with
  | zero =>
    intro i a hi h0 ha
    have n16 := hL.1
    refine x_iload_n (pc := 4) dX8_openMany_4 3 rfl ?_
    refine x_aload_n (pc := 5) dX8_openMany_5 0 rfl ?_
    refine y_getR (pc := 6) dX8_openMany_6 flX8_9 rfl rfl rfl (by decide) ?_
    refine x_bipush (pc := 9) (z := 9) dX8_openMany_9 (by decide) ?_
    refine y_nald (pc := 11) dX8_openMany_11 (by omega) ?_
    refine x_icmp_ge (pc := 12) 52 dX8_openMany_12 (by decide) (by unfold inI; omega) (by unfold inI; omega) (fun c_12 => ?_) (fun c_12 => (by exfalso; omega))
    refine x_iload_n (pc := 52) dX8_openMany_52 2 rfl ?_
    exact y_iret (pc := 53) dX8_openMany_53 rfl (by rw [ha, show i = N 9 by omega]) rfl
  | succ n ih =>
    intro i a hi h0 ha
    have n16 := hL.1
    have lf := hL.2 i h0 (by omega)
    have l0 := lf.1
    have l5 := lf.2.2.2.2.2.1
    refine x_iload_n (pc := 4) dX8_openMany_4 3 rfl ?_
    refine x_aload_n (pc := 5) dX8_openMany_5 0 rfl ?_
    refine y_getR (pc := 6) dX8_openMany_6 flX8_9 rfl rfl rfl (by decide) ?_
    refine x_bipush (pc := 9) (z := 9) dX8_openMany_9 (by decide) ?_
    refine y_nald (pc := 11) dX8_openMany_11 (by omega) ?_
    refine x_icmp_ge (pc := 12) 52 dX8_openMany_12 (by decide) (by unfold inI; omega) (by unfold inI; omega) (fun c_12 => (by exfalso; omega)) (fun c_12 => ?_)
    refine x_iload_n (pc := 15) dX8_openMany_15 2 rfl ?_
    refine x_aload_n (pc := 16) dX8_openMany_16 0 rfl ?_
    refine x_iload_n (pc := 17) dX8_openMany_17 3 rfl ?_
    refine x_callV (pc := 18) _ dX8_openMany_18 (mq_isOpen i (by omega) (by unfold inI; omega)) lkX8_221 rfl rfl rfl rfl (mem_dom0 (by decide) (by decide)) (by decide) (Nat.le_of_ble_eq_true rfl) rfl ?_
    refine x_ifb_eq (pc := 21) 43 dX8_openMany_21 (by decide) (fun c_21 => ?_) (fun c_21 => ?_)
    · refine x_iconst (pc := 43) dX8_openMany_43 ?_
      refine x_iadd (pc := 44) dX8_openMany_44 ?_
      refine x_istore_n (pc := 45) (lv' := [(2, _), (0, _), (1, _), (3, _)]) dX8_openMany_45 rfl (by decide) rfl ?_
      refine x_iinc (pc := 46) (lv' := [(3, _), (2, _), (0, _), (1, _)]) dX8_openMany_46 3 rfl (by decide) rfl ?_
      refine x_goto (pc := 49) 4 dX8_openMany_49 (by decide) ?_
      exact x_lv [2, 3, 1, 0] rfl (ih (i + 1) _ (by omega) (by omega) (by rw [sm_succ _ h0, ← ha]; show _ = a + (openFN N c i); unfold openFN; first | (rw [if_pos (by omega)]) | (rw [if_neg (by omega)])))
    · refine x_iload_n (pc := 24) dX8_openMany_24 1 rfl ?_
      refine x_iconst (pc := 25) dX8_openMany_25 ?_
      refine x_icmp_eq (pc := 26) 39 dX8_openMany_26 (by decide) hc (by unfold inI; omega) (fun c_26 => ?_) (fun c_26 => ?_)
      · refine x_iconst (pc := 39) dX8_openMany_39 ?_
        refine x_goto (pc := 40) 44 dX8_openMany_40 (by decide) ?_
        refine x_iadd (pc := 44) dX8_openMany_44 ?_
        refine x_istore_n (pc := 45) (lv' := [(2, _), (0, _), (1, _), (3, _)]) dX8_openMany_45 rfl (by decide) rfl ?_
        refine x_iinc (pc := 46) (lv' := [(3, _), (2, _), (0, _), (1, _)]) dX8_openMany_46 3 rfl (by decide) rfl ?_
        refine x_goto (pc := 49) 4 dX8_openMany_49 (by decide) ?_
        exact x_lv [2, 3, 1, 0] rfl (ih (i + 1) _ (by omega) (by omega) (by rw [sm_succ _ h0, ← ha]; show _ = a + (openFN N c i); unfold openFN; first | (rw [if_pos (by omega)]) | (rw [if_neg (by omega)])))
      · refine x_aload_n (pc := 29) dX8_openMany_29 0 rfl ?_
        refine x_iload_n (pc := 30) dX8_openMany_30 3 rfl ?_
        refine x_iconst (pc := 31) dX8_openMany_31 ?_
        refine x_callV (pc := 32) _ dX8_openMany_32 (mq_ofLoan (i) 0 (by omega)) lkX8_50 rfl rfl rfl rfl (mem_dom0 (by decide) (by decide)) (by decide) (Nat.le_of_ble_eq_true rfl) rfl ?_
        refine x_iload_n (pc := 35) dX8_openMany_35 1 rfl ?_
        refine x_icmp_ne (pc := 36) 43 dX8_openMany_36 (by decide) (by unfold inI; omega) hc (fun c_36 => ?_) (fun c_36 => ?_)
        · refine x_iconst (pc := 43) dX8_openMany_43 ?_
          refine x_iadd (pc := 44) dX8_openMany_44 ?_
          refine x_istore_n (pc := 45) (lv' := [(2, _), (0, _), (1, _), (3, _)]) dX8_openMany_45 rfl (by decide) rfl ?_
          refine x_iinc (pc := 46) (lv' := [(3, _), (2, _), (0, _), (1, _)]) dX8_openMany_46 3 rfl (by decide) rfl ?_
          refine x_goto (pc := 49) 4 dX8_openMany_49 (by decide) ?_
          exact x_lv [2, 3, 1, 0] rfl (ih (i + 1) _ (by omega) (by omega) (by rw [sm_succ _ h0, ← ha]; show _ = a + (openFN N c i); unfold openFN; first | (rw [if_pos (by omega)]) | (rw [if_neg (by omega)])))
        · refine x_iconst (pc := 39) dX8_openMany_39 ?_
          refine x_goto (pc := 40) 44 dX8_openMany_40 (by decide) ?_
          refine x_iadd (pc := 44) dX8_openMany_44 ?_
          refine x_istore_n (pc := 45) (lv' := [(2, _), (0, _), (1, _), (3, _)]) dX8_openMany_45 rfl (by decide) rfl ?_
          refine x_iinc (pc := 46) (lv' := [(3, _), (2, _), (0, _), (1, _)]) dX8_openMany_46 3 rfl (by decide) rfl ?_
          refine x_goto (pc := 49) 4 dX8_openMany_49 (by decide) ?_
          exact x_lv [2, 3, 1, 0] rfl (ih (i + 1) _ (by omega) (by omega) (by rw [sm_succ _ h0, ← ha]; show _ = a + (openFN N c i); unfold openFN; first | (rw [if_pos (by omega)]) | (rw [if_neg (by omega)])))

theorem mq_openMany {G : GG} {m : Mem} {N : Int → Int} (c : Int) (hc : inI c) (hL : LNs N) : Ct G MX8_openMany (rmD 2) [rf G 41 0, .int (iI c)] (hp (sr m N)) (.inl (some (.int (iI (sm (openFN N c) (N 9).toNat))))) (hp (sr m N)) := by
  refine x_entry (by decide +kernel) mwX8_openMany rfl (Nat.le_of_ble_eq_true rfl) ?_
  show X G MX8_openMany (rmD 2) 0 [(0, rf G 41 0), (1, .int (iI c))] [] (hp (sr m N)) 0 0 (.inl (some (.int (iI (sm (openFN N c) (N 9).toNat))))) (hp (sr m N))
  refine x_iconst (pc := 0) dX8_openMany_0 ?_
  refine x_istore_n (pc := 1) (lv' := [(2, _), (0, _), (1, _)]) dX8_openMany_1 rfl (by decide) rfl ?_
  refine x_iconst (pc := 2) dX8_openMany_2 ?_
  refine x_istore_n (pc := 3) (lv' := [(3, _), (2, _), (0, _), (1, _)]) dX8_openMany_3 rfl (by decide) rfl ?_
  exact x_lv [2, 3, 1, 0] rfl (lp_openMany c hc hL (N 9).toNat 0 0 (by have := hL.1; omega) (by omega) rfl)

theorem lp_sumOfM {G : GG} {m : Mem} {N : Int → Int} (c w : Int) (hc : inI c) (hw : 0 ≤ w ∧ w ≤ 6) (hL : LNs N) : ∀ (n : Nat) (i a : Int), i + n = N 9 → 0 ≤ i → a = sm (sumFN N c w) i.toNat → X G MX8_sumOf (rmD 1) 5 [(0, rf G 41 0), (1, .int (iI c)), (2, .int (iI w)), (3, .int (iI a)), (4, .int (iI i))] [] (hp (sr m N)) 0 0 (.inl (some (.int (iI (sm (sumFN N c w) (N 9).toNat))))) (hp (sr m N)) := by
  intro n
  induction n with
  | zero =>
    intro i a hi h0 ha
    have n16 := hL.1
    refine x_iload (pc := 5) dX8_sumOf_5 4 rfl ?_
    refine x_aload_n (pc := 7) dX8_sumOf_7 0 rfl ?_
    refine y_getR (pc := 8) dX8_sumOf_8 flX8_9 rfl rfl rfl (by decide) ?_
    refine x_bipush (pc := 11) (z := 9) dX8_sumOf_11 (by decide) ?_
    refine y_nald (pc := 13) dX8_sumOf_13 (by omega) ?_
    refine x_icmp_ge (pc := 14) 48 dX8_sumOf_14 (by decide) (by unfold inI; omega) (by unfold inI; omega) (fun c_14 => ?_) (fun c_14 => (by exfalso; omega))
    refine x_iload_n (pc := 48) dX8_sumOf_48 3 rfl ?_
    exact y_iret (pc := 49) dX8_sumOf_49 rfl (by rw [ha, show i = N 9 by omega]) rfl
  | succ n ih =>
    intro i a hi h0 ha
    have n16 := hL.1
    have lf := hL.2 i h0 (by omega)
    have l0 := lf.1
    have l5 := lf.2.2.2.2.2.1
    refine x_iload (pc := 5) dX8_sumOf_5 4 rfl ?_
    refine x_aload_n (pc := 7) dX8_sumOf_7 0 rfl ?_
    refine y_getR (pc := 8) dX8_sumOf_8 flX8_9 rfl rfl rfl (by decide) ?_
    refine x_bipush (pc := 11) (z := 9) dX8_sumOf_11 (by decide) ?_
    refine y_nald (pc := 13) dX8_sumOf_13 (by omega) ?_
    refine x_icmp_ge (pc := 14) 48 dX8_sumOf_14 (by decide) (by unfold inI; omega) (by unfold inI; omega) (fun c_14 => (by exfalso; omega)) (fun c_14 => ?_)
    refine x_iload_n (pc := 17) dX8_sumOf_17 3 rfl ?_
    refine x_aload_n (pc := 18) dX8_sumOf_18 0 rfl ?_
    refine x_iload (pc := 19) dX8_sumOf_19 4 rfl ?_
    refine x_iconst (pc := 21) dX8_sumOf_21 ?_
    refine x_callV (pc := 22) _ dX8_sumOf_22 (mq_ofLoan (i) 0 (by omega)) lkX8_50 rfl rfl rfl rfl (mem_dom0 (by decide) (by decide)) (by decide) (Nat.le_of_ble_eq_true rfl) rfl ?_
    refine x_iload_n (pc := 25) dX8_sumOf_25 1 rfl ?_
    refine x_icmp_ne (pc := 26) 39 dX8_sumOf_26 (by decide) (by unfold inI; omega) hc (fun c_26 => ?_) (fun c_26 => ?_)
    · refine x_iconst (pc := 39) dX8_sumOf_39 ?_
      refine x_iadd (pc := 40) dX8_sumOf_40 ?_
      refine x_istore_n (pc := 41) (lv' := [(3, _), (0, _), (1, _), (2, _), (4, _)]) dX8_sumOf_41 rfl (by decide) rfl ?_
      refine x_iinc (pc := 42) (lv' := [(4, _), (3, _), (0, _), (1, _), (2, _)]) dX8_sumOf_42 4 rfl (by decide) rfl ?_
      refine x_goto (pc := 45) 5 dX8_sumOf_45 (by decide) ?_
      exact x_lv [2, 3, 4, 1, 0] rfl (ih (i + 1) _ (by omega) (by omega) (by rw [sm_succ _ h0, ← ha]; show _ = a + (sumFN N c w i); unfold sumFN; first | (rw [if_pos (by omega)]) | (rw [if_neg (by omega)])))
    · refine x_aload_n (pc := 29) dX8_sumOf_29 0 rfl ?_
      refine x_iload (pc := 30) dX8_sumOf_30 4 rfl ?_
      refine x_iload_n (pc := 32) dX8_sumOf_32 2 rfl ?_
      refine x_callV (pc := 33) _ dX8_sumOf_33 (mq_ofLoan (i) w (by omega)) lkX8_50 rfl rfl rfl rfl (mem_dom0 (by decide) (by decide)) (by decide) (Nat.le_of_ble_eq_true rfl) rfl ?_
      refine x_goto (pc := 36) 40 dX8_sumOf_36 (by decide) ?_
      refine x_iadd (pc := 40) dX8_sumOf_40 ?_
      refine x_istore_n (pc := 41) (lv' := [(3, _), (0, _), (1, _), (2, _), (4, _)]) dX8_sumOf_41 rfl (by decide) rfl ?_
      refine x_iinc (pc := 42) (lv' := [(4, _), (3, _), (0, _), (1, _), (2, _)]) dX8_sumOf_42 4 rfl (by decide) rfl ?_
      refine x_goto (pc := 45) 5 dX8_sumOf_45 (by decide) ?_
      exact x_lv [2, 3, 4, 1, 0] rfl (ih (i + 1) _ (by omega) (by omega) (by rw [sm_succ _ h0, ← ha]; show _ = a + (sumFN N c w i); unfold sumFN; first | (rw [if_pos (by omega)]) | (rw [if_neg (by omega)])))

theorem mq_sumOf {G : GG} {m : Mem} {N : Int → Int} (c w : Int) (hc : inI c) (hw : 0 ≤ w ∧ w ≤ 6) (hL : LNs N) : Ct G MX8_sumOf (rmD 1) [rf G 41 0, .int (iI c), .int (iI w)] (hp (sr m N)) (.inl (some (.int (iI (sm (sumFN N c w) (N 9).toNat))))) (hp (sr m N)) := by
  refine x_entry (by decide +kernel) mwX8_sumOf rfl (Nat.le_of_ble_eq_true rfl) ?_
  show X G MX8_sumOf (rmD 1) 0 [(0, rf G 41 0), (1, .int (iI c)), (2, .int (iI w))] [] (hp (sr m N)) 0 0 (.inl (some (.int (iI (sm (sumFN N c w) (N 9).toNat))))) (hp (sr m N))
  refine x_iconst (pc := 0) dX8_sumOf_0 ?_
  refine x_istore_n (pc := 1) (lv' := [(3, _), (0, _), (1, _), (2, _)]) dX8_sumOf_1 rfl (by decide) rfl ?_
  refine x_iconst (pc := 2) dX8_sumOf_2 ?_
  refine x_istore (pc := 3) (lv' := [(4, _), (3, _), (0, _), (1, _), (2, _)]) dX8_sumOf_3 (by decide) rfl ?_
  exact x_lv [2, 3, 4, 1, 0] rfl (lp_sumOfM c w hc hw hL (N 9).toNat 0 0 (by have := hL.1; omega) (by omega) rfl)

theorem lp_owedBy {G : GG} {m : Mem} {N : Int → Int} (q w : Int) (hq : inI q) (hw : 0 ≤ w ∧ w ≤ 1) (hL : LNs N) (hC : ∀ l, 0 ≤ l → l < N 9 → inI (N (270 + 6 * N (318 + 7 * l + 0) + w))) : ∀ (n : Nat) (i a : Int), i + n = N 9 → 0 ≤ i → a = sm (owedFN N q w) i.toNat → X G MX8_owedBy (rmD 3) 5 [(0, rf G 41 0), (1, .int (iI q)), (2, .int (iI w)), (3, .int (iI a)), (4, .int (iI i))] [] (hp (sr m N)) 0 0 (.inl (some (.int (iI (sm (owedFN N q w) (N 9).toNat))))) (hp (sr m N)) := by
  intro n
  induction n with
  | zero =>
    intro i a hi h0 ha
    have n16 := hL.1
    refine x_iload (pc := 5) dX8_owedBy_5 4 rfl ?_
    refine x_aload_n (pc := 7) dX8_owedBy_7 0 rfl ?_
    refine y_getR (pc := 8) dX8_owedBy_8 flX8_9 rfl rfl rfl (by decide) ?_
    refine x_bipush (pc := 11) (z := 9) dX8_owedBy_11 (by decide) ?_
    refine y_nald (pc := 13) dX8_owedBy_13 (by omega) ?_
    refine x_icmp_ge (pc := 14) 47 dX8_owedBy_14 (by decide) (by unfold inI; omega) (by unfold inI; omega) (fun c_14 => ?_) (fun c_14 => (by exfalso; omega))
    refine x_iload_n (pc := 47) dX8_owedBy_47 3 rfl ?_
    exact y_iret (pc := 48) dX8_owedBy_48 rfl (by rw [ha, show i = N 9 by omega]) rfl
  | succ n ih =>
    intro i a hi h0 ha
    have n16 := hL.1
    have lf := hL.2 i h0 (by omega)
    have l0 := lf.1
    have l5 := lf.2.2.2.2.2.1
    refine x_iload (pc := 5) dX8_owedBy_5 4 rfl ?_
    refine x_aload_n (pc := 7) dX8_owedBy_7 0 rfl ?_
    refine y_getR (pc := 8) dX8_owedBy_8 flX8_9 rfl rfl rfl (by decide) ?_
    refine x_bipush (pc := 11) (z := 9) dX8_owedBy_11 (by decide) ?_
    refine y_nald (pc := 13) dX8_owedBy_13 (by omega) ?_
    refine x_icmp_ge (pc := 14) 47 dX8_owedBy_14 (by decide) (by unfold inI; omega) (by unfold inI; omega) (fun c_14 => (by exfalso; omega)) (fun c_14 => ?_)
    refine x_iload_n (pc := 17) dX8_owedBy_17 3 rfl ?_
    refine x_aload_n (pc := 18) dX8_owedBy_18 0 rfl ?_
    refine x_iload (pc := 19) dX8_owedBy_19 4 rfl ?_
    refine x_iload_n (pc := 21) dX8_owedBy_21 2 rfl ?_
    refine x_callV (pc := 22) _ dX8_owedBy_22 (mq_ofLoans (i) w (by omega) (by omega)) lkX8_308 rfl rfl rfl rfl (mem_dom0 (by decide) (by decide)) (by decide) (Nat.le_of_ble_eq_true rfl) rfl ?_
    refine x_iload_n (pc := 25) dX8_owedBy_25 1 rfl ?_
    refine x_icmp_ne (pc := 26) 38 dX8_owedBy_26 (by decide) (hC i h0 (by omega)) hq (fun c_26 => ?_) (fun c_26 => ?_)
    · refine x_iconst (pc := 38) dX8_owedBy_38 ?_
      refine x_iadd (pc := 39) dX8_owedBy_39 ?_
      refine x_istore_n (pc := 40) (lv' := [(3, _), (0, _), (1, _), (2, _), (4, _)]) dX8_owedBy_40 rfl (by decide) rfl ?_
      refine x_iinc (pc := 41) (lv' := [(4, _), (3, _), (0, _), (1, _), (2, _)]) dX8_owedBy_41 4 rfl (by decide) rfl ?_
      refine x_goto (pc := 44) 5 dX8_owedBy_44 (by decide) ?_
      exact x_lv [2, 3, 4, 1, 0] rfl (ih (i + 1) _ (by omega) (by omega) (by rw [sm_succ _ h0, ← ha]; show _ = a + (owedFN N q w i); unfold owedFN; first | (rw [if_pos (by omega)]) | (rw [if_neg (by omega)])))
    · refine x_aload_n (pc := 29) dX8_owedBy_29 0 rfl ?_
      refine x_iload (pc := 30) dX8_owedBy_30 4 rfl ?_
      refine x_callV (pc := 32) _ dX8_owedBy_32 (mq_owed i (by omega) lf) lkX8_254 rfl rfl rfl rfl (mem_dom0 (by decide) (by decide)) (by decide) (Nat.le_of_ble_eq_true rfl) rfl ?_
      refine x_goto (pc := 35) 39 dX8_owedBy_35 (by decide) ?_
      refine x_iadd (pc := 39) dX8_owedBy_39 ?_
      refine x_istore_n (pc := 40) (lv' := [(3, _), (0, _), (1, _), (2, _), (4, _)]) dX8_owedBy_40 rfl (by decide) rfl ?_
      refine x_iinc (pc := 41) (lv' := [(4, _), (3, _), (0, _), (1, _), (2, _)]) dX8_owedBy_41 4 rfl (by decide) rfl ?_
      refine x_goto (pc := 44) 5 dX8_owedBy_44 (by decide) ?_
      exact x_lv [2, 3, 4, 1, 0] rfl (ih (i + 1) _ (by omega) (by omega) (by rw [sm_succ _ h0, ← ha]; show _ = a + (owedFN N q w i); unfold owedFN; first | (rw [if_pos (by omega)]) | (rw [if_neg (by omega)])))

theorem mq_owedBy {G : GG} {m : Mem} {N : Int → Int} (q w : Int) (hq : inI q) (hw : 0 ≤ w ∧ w ≤ 1) (hL : LNs N) (hC : ∀ l, 0 ≤ l → l < N 9 → inI (N (270 + 6 * N (318 + 7 * l + 0) + w))) : Ct G MX8_owedBy (rmD 3) [rf G 41 0, .int (iI q), .int (iI w)] (hp (sr m N)) (.inl (some (.int (iI (sm (owedFN N q w) (N 9).toNat))))) (hp (sr m N)) := by
  refine x_entry (by decide +kernel) mwX8_owedBy rfl (Nat.le_of_ble_eq_true rfl) ?_
  show X G MX8_owedBy (rmD 3) 0 [(0, rf G 41 0), (1, .int (iI q)), (2, .int (iI w))] [] (hp (sr m N)) 0 0 (.inl (some (.int (iI (sm (owedFN N q w) (N 9).toNat))))) (hp (sr m N))
  refine x_iconst (pc := 0) dX8_owedBy_0 ?_
  refine x_istore_n (pc := 1) (lv' := [(3, _), (0, _), (1, _), (2, _)]) dX8_owedBy_1 rfl (by decide) rfl ?_
  refine x_iconst (pc := 2) dX8_owedBy_2 ?_
  refine x_istore (pc := 3) (lv' := [(4, _), (3, _), (0, _), (1, _), (2, _)]) dX8_owedBy_3 (by decide) rfl ?_
  exact x_lv [2, 3, 4, 1, 0] rfl (lp_owedBy q w hq hw hL hC (N 9).toNat 0 0 (by have := hL.1; omega) (by omega) rfl)

theorem lp_outM {G : GG} {m : Mem} {N : Int → Int} (c : Int) (hc : inI c) (hL : LNs N) : ∀ (n : Nat) (i a : Int), i + n = N 9 → 0 ≤ i → a = sm (outFN N c) i.toNat → X G MX8_outstanding (rmD 3) 5 [(0, rf G 41 0), (1, .int (iI c)), (2, .long (lI a)), (4, .int (iI i))] [] (hp (sr m N)) 0 0 (.inl (some (.long (lI (sm (outFN N c) (N 9).toNat))))) (hp (sr m N)) := by
  intro n
  induction n with
  | zero =>
    intro i a hi h0 ha
    have n16 := hL.1
    refine x_iload (pc := 5) dX8_outstanding_5 3 rfl ?_
    refine x_aload_n (pc := 7) dX8_outstanding_7 0 rfl ?_
    refine y_getR (pc := 8) dX8_outstanding_8 flX8_9 rfl rfl rfl (by decide) ?_
    refine x_bipush (pc := 11) (z := 9) dX8_outstanding_11 (by decide) ?_
    refine y_nald (pc := 13) dX8_outstanding_13 (by omega) ?_
    refine x_icmp_ge (pc := 14) 74 dX8_outstanding_14 (by decide) (by unfold inI; omega) (by unfold inI; omega) (fun c_14 => ?_) (fun c_14 => (by exfalso; omega))
    refine x_lload_n (pc := 74) dX8_outstanding_74 2 rfl ?_
    exact y_lret (pc := 75) dX8_outstanding_75 rfl (by rw [ha, show i = N 9 by omega]) rfl
  | succ n ih =>
    intro i a hi h0 ha
    have n16 := hL.1
    have lf := hL.2 i h0 (by omega)
    have l0 := lf.1
    have l5 := lf.2.2.2.2.2.1
    have ow := owedN_b lf
    have l1 := lf.2.1
    have l2 := lf.2.2.1
    refine x_iload (pc := 5) dX8_outstanding_5 3 rfl ?_
    refine x_aload_n (pc := 7) dX8_outstanding_7 0 rfl ?_
    refine y_getR (pc := 8) dX8_outstanding_8 flX8_9 rfl rfl rfl (by decide) ?_
    refine x_bipush (pc := 11) (z := 9) dX8_outstanding_11 (by decide) ?_
    refine y_nald (pc := 13) dX8_outstanding_13 (by omega) ?_
    refine x_icmp_ge (pc := 14) 74 dX8_outstanding_14 (by decide) (by unfold inI; omega) (by unfold inI; omega) (fun c_14 => (by exfalso; omega)) (fun c_14 => ?_)
    refine x_aload_n (pc := 17) dX8_outstanding_17 0 rfl ?_
    refine x_iload (pc := 18) dX8_outstanding_18 3 rfl ?_
    refine x_iconst (pc := 20) dX8_outstanding_20 ?_
    refine x_callV (pc := 21) _ dX8_outstanding_21 (mq_ofLoan (i) 0 (by omega)) lkX8_50 rfl rfl rfl rfl (mem_dom0 (by decide) (by decide)) (by decide) (Nat.le_of_ble_eq_true rfl) rfl ?_
    refine x_iload_n (pc := 24) dX8_outstanding_24 1 rfl ?_
    refine x_icmp_ne (pc := 25) 68 dX8_outstanding_25 (by decide) (by unfold inI; omega) hc (fun c_25 => ?_) (fun c_25 => ?_)
    · refine x_iinc (pc := 68) (lv' := [(4, _), (0, _), (1, _), (2, _)]) dX8_outstanding_68 3 rfl (by decide) rfl ?_
      refine x_goto (pc := 71) 5 dX8_outstanding_71 (by decide) ?_
      exact x_lv [1, 2, 3, 0] rfl (ih (i + 1) _ (by omega) (by omega) (by rw [sm_succ _ h0, ← ha]; show _ = a + (outFN N c i); unfold outFN; rw [if_neg (by omega)]; omega))
    · refine x_lload_n (pc := 28) dX8_outstanding_28 2 rfl ?_
      refine x_aload_n (pc := 29) dX8_outstanding_29 0 rfl ?_
      refine x_iload (pc := 30) dX8_outstanding_30 3 rfl ?_
      refine x_callV (pc := 32) _ dX8_outstanding_32 (mq_owed i (by omega) lf) lkX8_254 rfl rfl rfl rfl (mem_dom0 (by decide) (by decide)) (by decide) (Nat.le_of_ble_eq_true rfl) rfl ?_
      refine x_aload_n (pc := 35) dX8_outstanding_35 0 rfl ?_
      refine x_iload (pc := 36) dX8_outstanding_36 3 rfl ?_
      refine x_iconst (pc := 38) dX8_outstanding_38 ?_
      refine x_callV (pc := 39) _ dX8_outstanding_39 (mq_ofLoan (i) 5 (by omega)) lkX8_50 rfl rfl rfl rfl (mem_dom0 (by decide) (by decide)) (by decide) (Nat.le_of_ble_eq_true rfl) rfl ?_
      refine x_if_ne (pc := 42) 63 dX8_outstanding_42 (by decide) (by unfold inI; omega) (fun c_42 => ?_) (fun c_42 => ?_)
      · refine x_iconst (pc := 63) dX8_outstanding_63 ?_
        refine x_iadd (pc := 64) dX8_outstanding_64 ?_
        refine x_i2l (pc := 65) dX8_outstanding_65 (by unfold inI; omega) ?_
        refine x_ladd (pc := 66) dX8_outstanding_66 ?_
        refine x_lstore_n (pc := 67) (lv' := [(2, _), (0, _), (1, _), (4, _)]) dX8_outstanding_67 rfl (by decide) rfl ?_
        refine x_iinc (pc := 68) (lv' := [(4, _), (2, _), (0, _), (1, _)]) dX8_outstanding_68 3 rfl (by decide) rfl ?_
        refine x_goto (pc := 71) 5 dX8_outstanding_71 (by decide) ?_
        exact x_lv [2, 3, 1, 0] rfl (ih (i + 1) _ (by omega) (by omega) (by rw [sm_succ _ h0, ← ha]; show _ = a + (outFN N c i); unfold outFN; rw [if_pos (by omega), if_neg (by omega)]))
      · refine x_aload_n (pc := 45) dX8_outstanding_45 0 rfl ?_
        refine x_iload (pc := 46) dX8_outstanding_46 3 rfl ?_
        refine x_iconst (pc := 48) dX8_outstanding_48 ?_
        refine x_callV (pc := 49) _ dX8_outstanding_49 (mq_ofLoan (i) 1 (by omega)) lkX8_50 rfl rfl rfl rfl (mem_dom0 (by decide) (by decide)) (by decide) (Nat.le_of_ble_eq_true rfl) rfl ?_
        refine x_aload_n (pc := 52) dX8_outstanding_52 0 rfl ?_
        refine x_iload (pc := 53) dX8_outstanding_53 3 rfl ?_
        refine x_iconst (pc := 55) dX8_outstanding_55 ?_
        refine x_callV (pc := 56) _ dX8_outstanding_56 (mq_ofLoan (i) 2 (by omega)) lkX8_50 rfl rfl rfl rfl (mem_dom0 (by decide) (by decide)) (by decide) (Nat.le_of_ble_eq_true rfl) rfl ?_
        refine x_isub (pc := 59) dX8_outstanding_59 ?_
        refine x_goto (pc := 60) 64 dX8_outstanding_60 (by decide) ?_
        refine x_iadd (pc := 64) dX8_outstanding_64 ?_
        refine x_i2l (pc := 65) dX8_outstanding_65 (by unfold inI; omega) ?_
        refine x_ladd (pc := 66) dX8_outstanding_66 ?_
        refine x_lstore_n (pc := 67) (lv' := [(2, _), (0, _), (1, _), (4, _)]) dX8_outstanding_67 rfl (by decide) rfl ?_
        refine x_iinc (pc := 68) (lv' := [(4, _), (2, _), (0, _), (1, _)]) dX8_outstanding_68 3 rfl (by decide) rfl ?_
        refine x_goto (pc := 71) 5 dX8_outstanding_71 (by decide) ?_
        exact x_lv [2, 3, 1, 0] rfl (ih (i + 1) _ (by omega) (by omega) (by rw [sm_succ _ h0, ← ha]; show _ = a + (outFN N c i); unfold outFN; rw [if_pos (by omega), if_pos (by omega)]))

theorem mq_outstanding {G : GG} {m : Mem} {N : Int → Int} (c : Int) (hc : inI c) (hL : LNs N) : Ct G MX8_outstanding (rmD 3) [rf G 41 0, .int (iI c)] (hp (sr m N)) (.inl (some (.long (lI (sm (outFN N c) (N 9).toNat))))) (hp (sr m N)) := by
  refine x_entry (by decide +kernel) mwX8_outstanding rfl (Nat.le_of_ble_eq_true rfl) ?_
  show X G MX8_outstanding (rmD 3) 0 [(0, rf G 41 0), (1, .int (iI c))] [] (hp (sr m N)) 0 0 (.inl (some (.long (lI (sm (outFN N c) (N 9).toNat))))) (hp (sr m N))
  refine x_lconst (pc := 0) (z := 0) dX8_outstanding_0 (by decide) ?_
  refine x_lstore_n (pc := 1) (lv' := [(2, _), (0, _), (1, _)]) dX8_outstanding_1 rfl (by decide) rfl ?_
  refine x_iconst (pc := 2) dX8_outstanding_2 ?_
  refine x_istore (pc := 3) (lv' := [(4, _), (2, _), (0, _), (1, _)]) dX8_outstanding_3 (by decide) rfl ?_
  exact x_lv [2, 3, 1, 0] rfl (lp_outM c hc hL (N 9).toNat 0 0 (by have := hL.1; omega) (by omega) rfl)

def hinN (N : Int → Int) (c x : Int) : Int := if N (270 + 6 * c + 5) = 1 then 1 else if N (270 + 6 * c + 2) < sm (outFN N c) (N 9).toNat + x then 2 else if aboveN N (N (270 + 6 * c + 0)) < x then 3 else if N 9 = 16 then 4 else 0
theorem mq_hindered {G : GG} {m : Mem} {N : Int → Int} (c x : Int) (hc : 0 ≤ c ∧ c < 8) (hx : 0 ≤ x ∧ x ≤ 1000000) (hL : LNs N) (h0 : 0 ≤ N (270 + 6 * c + 0) ∧ N (270 + 6 * c + 0) < 8) (h2 : inI (N (270 + 6 * c + 2))) (h5 : inI (N (270 + 6 * c + 5))) (ha : inI (aboveN N (N (270 + 6 * c + 0)))) (ho : 0 ≤ sm (outFN N c) (N 9).toNat ∧ sm (outFN N c) (N 9).toNat ≤ 2000000000) : Ct G MX8_hindered (rmD 4) [rf G 41 0, .int (iI c), .int (iI x)] (hp (sr m N)) (.inl (some (.int (iI (hinN N c x))))) (hp (sr m N)) := by
  refine x_entry (by decide +kernel) mwX8_hindered rfl (Nat.le_of_ble_eq_true rfl) ?_
  show X G MX8_hindered (rmD 4) 0 [(0, rf G 41 0), (1, .int (iI c)), (2, .int (iI x))] [] (hp (sr m N)) 0 0 (.inl (some (.int (iI (hinN N c x))))) (hp (sr m N))
  have n16 := hL.1
  have i2 := h2
  unfold inI at i2
  refine x_aload_n (pc := 0) dX8_hindered_0 0 rfl ?_
  refine x_iload_n (pc := 1) dX8_hindered_1 1 rfl ?_
  refine x_iconst (pc := 2) dX8_hindered_2 ?_
  refine x_callV (pc := 3) _ dX8_hindered_3 (mq_ofContract c 5 (by omega)) lkX8_54 rfl rfl rfl rfl (mem_dom0 (by decide) (by decide)) (by decide) (Nat.le_of_ble_eq_true rfl) rfl ?_
  refine x_iconst (pc := 6) dX8_hindered_6 ?_
  refine x_icmp_ne (pc := 7) 12 dX8_hindered_7 (by decide) h5 (by unfold inI; omega) (fun c_7 => ?_) (fun c_7 => ?_)
  · refine x_aload_n (pc := 12) dX8_hindered_12 0 rfl ?_
    refine x_iload_n (pc := 13) dX8_hindered_13 1 rfl ?_
    refine x_callV (pc := 14) _ dX8_hindered_14 (mq_outstanding c (by unfold inI; omega) hL) lkX8_262 rfl rfl rfl rfl (mem_dom0 (by decide) (by decide)) (by decide) (Nat.le_of_ble_eq_true rfl) rfl ?_
    refine x_iload_n (pc := 17) dX8_hindered_17 2 rfl ?_
    refine x_i2l (pc := 18) dX8_hindered_18 (by unfold inI; omega) ?_
    refine x_ladd (pc := 19) dX8_hindered_19 ?_
    refine x_aload_n (pc := 20) dX8_hindered_20 0 rfl ?_
    refine x_iload_n (pc := 21) dX8_hindered_21 1 rfl ?_
    refine x_iconst (pc := 22) dX8_hindered_22 ?_
    refine x_callV (pc := 23) _ dX8_hindered_23 (mq_ofContract c 2 (by omega)) lkX8_54 rfl rfl rfl rfl (mem_dom0 (by decide) (by decide)) (by decide) (Nat.le_of_ble_eq_true rfl) rfl ?_
    refine x_i2l (pc := 26) dX8_hindered_26 h2 ?_
    refine x_lcmp (pc := 27) dX8_hindered_27 (by unfold inL; omega) (by unfold inL; omega) ?_
    refine x_if_le (pc := 28) 33 dX8_hindered_28 (by decide) (by unfold inI; omega) (fun c_28 => ?_) (fun c_28 => ?_)
    · refine x_aload_n (pc := 33) dX8_hindered_33 0 rfl ?_
      refine x_aload_n (pc := 34) dX8_hindered_34 0 rfl ?_
      refine x_iload_n (pc := 35) dX8_hindered_35 1 rfl ?_
      refine x_iconst (pc := 36) dX8_hindered_36 ?_
      refine x_callV (pc := 37) _ dX8_hindered_37 (mq_ofContract c 0 (by omega)) lkX8_54 rfl rfl rfl rfl (mem_dom0 (by decide) (by decide)) (by decide) (Nat.le_of_ble_eq_true rfl) rfl ?_
      refine x_callV (pc := 40) _ dX8_hindered_40 (mq_above _ h0) lkX8_287 rfl rfl rfl rfl (mem_dom0 (by decide) (by decide)) (by decide) (Nat.le_of_ble_eq_true rfl) rfl ?_
      refine x_iload_n (pc := 43) dX8_hindered_43 2 rfl ?_
      refine x_icmp_ge (pc := 44) 49 dX8_hindered_44 (by decide) ha (by unfold inI; omega) (fun c_44 => ?_) (fun c_44 => ?_)
      · refine x_aload_n (pc := 49) dX8_hindered_49 0 rfl ?_
        refine y_getR (pc := 50) dX8_hindered_50 flX8_9 rfl rfl rfl (by decide) ?_
        refine x_bipush (pc := 53) (z := 9) dX8_hindered_53 (by decide) ?_
        refine y_nald (pc := 55) dX8_hindered_55 (by omega) ?_
        refine x_bipush (pc := 56) (z := 16) dX8_hindered_56 (by decide) ?_
        refine x_icmp_ne (pc := 58) 65 dX8_hindered_58 (by decide) (by unfold inI; omega) (by unfold inI; omega) (fun c_58 => ?_) (fun c_58 => ?_)
        · refine x_iconst (pc := 65) dX8_hindered_65 ?_
          exact y_iret (pc := 66) dX8_hindered_66 rfl (by unfold hinN; split <;> (first | omega | (split <;> (first | omega | (split <;> (first | omega | (split <;> omega))))))) rfl
        · refine x_iconst (pc := 61) dX8_hindered_61 ?_
          refine x_goto (pc := 62) 66 dX8_hindered_62 (by decide) ?_
          exact y_iret (pc := 66) dX8_hindered_66 rfl (by unfold hinN; split <;> (first | omega | (split <;> (first | omega | (split <;> (first | omega | (split <;> omega))))))) rfl
      · refine x_iconst (pc := 47) dX8_hindered_47 ?_
        exact y_iret (pc := 48) dX8_hindered_48 rfl (by unfold hinN; split <;> (first | omega | (split <;> (first | omega | (split <;> (first | omega | (split <;> omega))))))) rfl
    · refine x_iconst (pc := 31) dX8_hindered_31 ?_
      exact y_iret (pc := 32) dX8_hindered_32 rfl (by unfold hinN; split <;> (first | omega | (split <;> (first | omega | (split <;> (first | omega | (split <;> omega))))))) rfl
  · refine x_iconst (pc := 10) dX8_hindered_10 ?_
    exact y_iret (pc := 11) dX8_hindered_11 rfl (by unfold hinN; split <;> (first | omega | (split <;> (first | omega | (split <;> (first | omega | (split <;> omega))))))) rfl

def farF (N : Int → Int) (sg b i : Int) : Nat → Int
  | 0 => b
  | n + 1 => farF N sg (if b = -1 ∨ sg * aboveN N b < sg * aboveN N i then i else b) (i + 1) n
theorem lp_far {G : GG} {m : Mem} {N : Int → Int} (sg : Int) (hs : sg = 1 ∨ sg = -1) (hn : 0 ≤ N 3 ∧ N 3 ≤ 8) (hA : ∀ q, 0 ≤ q → q < N 3 → -100000000 ≤ aboveN N q ∧ aboveN N q ≤ 100000000) (z9 : Int) : ∀ (n : Nat) (i b : Int), i + n = N 3 → 0 ≤ i → (b = -1 ∨ 0 ≤ b ∧ b < i) → z9 = farF N sg b i n → X G MX8_farthest (rmD 2) 4 [(0, rf G 41 0), (1, .int (iI sg)), (2, .int (iI b)), (3, .int (iI i))] [] (hp (sr m N)) 0 0 (.inl (some (.int (iI (z9))))) (hp (sr m N)) := by
  intro n
  induction n with
  | zero =>
    intro i b hi h0 hb h9
    refine x_iload_n (pc := 4) dX8_farthest_4 3 rfl ?_
    refine x_aload_n (pc := 5) dX8_farthest_5 0 rfl ?_
    refine y_getR (pc := 6) dX8_farthest_6 flX8_9 rfl rfl rfl (by decide) ?_
    refine x_iconst (pc := 9) dX8_farthest_9 ?_
    refine y_nald (pc := 10) dX8_farthest_10 (by omega) ?_
    refine x_icmp_ge (pc := 11) 44 dX8_farthest_11 (by decide) (by unfold inI; omega) (by unfold inI; omega) (fun c_11 => ?_) (fun c_11 => (by exfalso; omega))
    refine x_iload_n (pc := 44) dX8_farthest_44 2 rfl ?_
    exact y_iret (pc := 45) dX8_farthest_45 rfl (by rw [h9]; rfl) rfl
  | succ n ih =>
    intro i b hi h0 hb h9
    have hi2 := hA i h0 (by omega)
    refine x_iload_n (pc := 4) dX8_farthest_4 3 rfl ?_
    refine x_aload_n (pc := 5) dX8_farthest_5 0 rfl ?_
    refine y_getR (pc := 6) dX8_farthest_6 flX8_9 rfl rfl rfl (by decide) ?_
    refine x_iconst (pc := 9) dX8_farthest_9 ?_
    refine y_nald (pc := 10) dX8_farthest_10 (by omega) ?_
    refine x_icmp_ge (pc := 11) 44 dX8_farthest_11 (by decide) (by unfold inI; omega) (by unfold inI; omega) (fun c_11 => (by exfalso; omega)) (fun c_11 => ?_)
    refine x_iload_n (pc := 14) dX8_farthest_14 2 rfl ?_
    refine x_iconst (pc := 15) dX8_farthest_15 ?_
    refine x_icmp_eq (pc := 16) 36 dX8_farthest_16 (by decide) (by unfold inI; omega) (by unfold inI; omega) (fun c_16 => ?_) (fun c_16 => ?_)
    · refine x_iload_n (pc := 36) dX8_farthest_36 3 rfl ?_
      refine x_istore_n (pc := 37) (lv' := [(2, _), (0, _), (1, _), (3, _)]) dX8_farthest_37 rfl (by decide) rfl ?_
      refine x_iinc (pc := 38) (lv' := [(3, _), (2, _), (0, _), (1, _)]) dX8_farthest_38 3 rfl (by decide) rfl ?_
      refine x_goto (pc := 41) 4 dX8_farthest_41 (by decide) ?_
      exact x_lv [2, 3, 1, 0] rfl (ih (i + 1) i (by omega) (by omega) (by omega) (by rw [h9]; show farF N sg (if _ then _ else _) _ _ = _; rw [if_pos (Or.inl c_16)]))
    · refine x_iload_n (pc := 19) dX8_farthest_19 1 rfl ?_
      refine x_aload_n (pc := 20) dX8_farthest_20 0 rfl ?_
      refine x_iload_n (pc := 21) dX8_farthest_21 3 rfl ?_
      refine x_callV (pc := 22) _ dX8_farthest_22 (mq_above i (by omega)) lkX8_287 rfl rfl rfl rfl (mem_dom0 (by decide) (by decide)) (by decide) (Nat.le_of_ble_eq_true rfl) rfl ?_
      refine x_imul (pc := 25) dX8_farthest_25 ?_
      refine x_iload_n (pc := 26) dX8_farthest_26 1 rfl ?_
      refine x_aload_n (pc := 27) dX8_farthest_27 0 rfl ?_
      refine x_iload_n (pc := 28) dX8_farthest_28 2 rfl ?_
      refine x_callV (pc := 29) _ dX8_farthest_29 (mq_above b (by omega)) lkX8_287 rfl rfl rfl rfl (mem_dom0 (by decide) (by decide)) (by decide) (Nat.le_of_ble_eq_true rfl) rfl ?_
      have hb2 := hA b (by omega) (by omega)
      refine x_imul (pc := 32) dX8_farthest_32 ?_
      refine x_icmp_le (pc := 33) 38 dX8_farthest_33 (by decide) (by unfold inI; rcases hs with e | e <;> rw [e] <;> omega) (by unfold inI; rcases hs with e | e <;> rw [e] <;> omega) (fun c_33 => ?_) (fun c_33 => ?_)
      · refine x_iinc (pc := 38) (lv' := [(3, _), (0, _), (1, _), (2, _)]) dX8_farthest_38 3 rfl (by decide) rfl ?_
        refine x_goto (pc := 41) 4 dX8_farthest_41 (by decide) ?_
        exact x_lv [1, 2, 3, 0] rfl (ih (i + 1) b (by omega) (by omega) (by omega) (by rw [h9]; show farF N sg (if _ then _ else _) _ _ = _; rw [if_neg (by omega)]))
      · refine x_iload_n (pc := 36) dX8_farthest_36 3 rfl ?_
        refine x_istore_n (pc := 37) (lv' := [(2, _), (0, _), (1, _), (3, _)]) dX8_farthest_37 rfl (by decide) rfl ?_
        refine x_iinc (pc := 38) (lv' := [(3, _), (2, _), (0, _), (1, _)]) dX8_farthest_38 3 rfl (by decide) rfl ?_
        refine x_goto (pc := 41) 4 dX8_farthest_41 (by decide) ?_
        exact x_lv [2, 3, 1, 0] rfl (ih (i + 1) i (by omega) (by omega) (by omega) (by rw [h9]; show farF N sg (if _ then _ else _) _ _ = _; rw [if_pos (Or.inr (by omega))]))

theorem mq_farthest {G : GG} {m : Mem} {N : Int → Int} (sg : Int) (hs : sg = 1 ∨ sg = -1) (hn : 0 ≤ N 3 ∧ N 3 ≤ 8) (hA : ∀ q, 0 ≤ q → q < N 3 → -100000000 ≤ aboveN N q ∧ aboveN N q ≤ 100000000) : Ct G MX8_farthest (rmD 2) [rf G 41 0, .int (iI sg)] (hp (sr m N)) (.inl (some (.int (iI (farF N sg (-1) 0 (N 3).toNat))))) (hp (sr m N)) := by
  refine x_entry (by decide +kernel) mwX8_farthest rfl (Nat.le_of_ble_eq_true rfl) ?_
  show X G MX8_farthest (rmD 2) 0 [(0, rf G 41 0), (1, .int (iI sg))] [] (hp (sr m N)) 0 0 (.inl (some (.int (iI (farF N sg (-1) 0 (N 3).toNat))))) (hp (sr m N))
  refine x_iconst (pc := 0) dX8_farthest_0 ?_
  refine x_istore_n (pc := 1) (lv' := [(2, _), (0, _), (1, _)]) dX8_farthest_1 rfl (by decide) rfl ?_
  refine x_iconst (pc := 2) dX8_farthest_2 ?_
  refine x_istore_n (pc := 3) (lv' := [(3, _), (2, _), (0, _), (1, _)]) dX8_farthest_3 rfl (by decide) rfl ?_
  exact x_lv [2, 3, 1, 0] rfl (lp_far sg hs hn hA _ (N 3).toNat 0 (-1) (by omega) (by omega) (by omega) rfl)
