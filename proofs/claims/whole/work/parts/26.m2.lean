theorem lp_between {G : GG} {m : Mem} {N : Int → Int} (a b : Int) (ha : inI a) (hb : inI b) (hU : SU N) (z9 : Int) : ∀ (n : Nat) (c : Int), c + n = N 5 → 0 ≤ c → z9 = betF N a b c n → X G MX8_between (rmD 0) 2 [(0, rf G 42 0), (1, .int (iI a)), (2, .int (iI b)), (3, .int (iI c))] [] (hp (sr m N)) 0 0 (.inl (some (.int (iI (z9))))) (hp (sr m N)) := by
  intro n
  induction n with
  | zero =>
    intro c h1 h0 hz
    have u2 := hU.2.1
    refine x_iload_n (pc := 2) dX8_between_2 3 rfl ?_
    refine x_aload_n (pc := 3) dX8_between_3 0 rfl ?_
    refine x_iconst (pc := 4) dX8_between_4 ?_
    refine y_nald (pc := 5) dX8_between_5 (by omega) ?_
    refine x_icmp_ge (pc := 6) 67 dX8_between_6 (by decide) (by unfold inI; omega) (by unfold inI; omega) (fun c_6 => ?_) (fun c_6 => (by exfalso; omega))
    refine x_iconst (pc := 67) dX8_between_67 ?_
    exact y_iret (pc := 68) dX8_between_68 rfl (by rw [hz]; rfl) rfl
  | succ n ih =>
    intro c h1 h0 hz
    have u2 := hU.2.1
    have uc := hU.2.2.2 c h0 (by omega)
    refine x_iload_n (pc := 2) dX8_between_2 3 rfl ?_
    refine x_aload_n (pc := 3) dX8_between_3 0 rfl ?_
    refine x_iconst (pc := 4) dX8_between_4 ?_
    refine y_nald (pc := 5) dX8_between_5 (by omega) ?_
    refine x_icmp_ge (pc := 6) 67 dX8_between_6 (by decide) (by unfold inI; omega) (by unfold inI; omega) (fun c_6 => (by exfalso; omega)) (fun c_6 => ?_)
    refine x_aload_n (pc := 9) dX8_between_9 0 rfl ?_
    refine x_bipush (pc := 10) (z := 86) dX8_between_10 (by decide) ?_
    refine x_bipush (pc := 12) (z := 6) dX8_between_12 (by decide) ?_
    refine x_iload_n (pc := 14) dX8_between_14 3 rfl ?_
    refine x_imul (pc := 15) dX8_between_15 ?_
    refine x_iadd (pc := 16) dX8_between_16 ?_
    refine x_iconst (pc := 17) dX8_between_17 ?_
    refine x_iadd (pc := 18) dX8_between_18 ?_
    refine y_nald (pc := 19) dX8_between_19 (by omega) ?_
    refine x_istore (pc := 20) (lv' := [(4, _), (0, _), (1, _), (2, _), (3, _)]) dX8_between_20 (by decide) rfl ?_
    refine x_aload_n (pc := 22) dX8_between_22 1 rfl ?_
    refine x_bipush (pc := 23) (z := 86) dX8_between_23 (by decide) ?_
    refine x_bipush (pc := 25) (z := 6) dX8_between_25 (by decide) ?_
    refine x_iload_n (pc := 27) dX8_between_27 4 rfl ?_
    refine x_imul (pc := 28) dX8_between_28 ?_
    refine x_iadd (pc := 29) dX8_between_29 ?_
    refine x_iconst (pc := 30) dX8_between_30 ?_
    refine x_iadd (pc := 31) dX8_between_31 ?_
    refine y_nald (pc := 32) dX8_between_32 (by omega) ?_
    refine x_istore (pc := 33) (lv' := [(5, _), (4, _), (0, _), (1, _), (2, _), (3, _)]) dX8_between_33 (by decide) rfl ?_
    refine x_iload (pc := 35) dX8_between_35 1 rfl ?_
    refine x_iload_n (pc := 37) dX8_between_37 3 rfl ?_
    refine x_icmp_ne (pc := 38) 47 dX8_between_38 (by decide) (by unfold inI; omega) ha (fun c_38 => ?_) (fun c_38 => ?_)
    · refine x_iload (pc := 47) dX8_between_47 1 rfl ?_
      refine x_iload_n (pc := 49) dX8_between_49 4 rfl ?_
      refine x_icmp_ne (pc := 50) 61 dX8_between_50 (by decide) (by unfold inI; omega) hb (fun c_50 => ?_) (fun c_50 => ?_)
      · refine x_iinc (pc := 61) (lv' := [(3, _), (5, _), (4, _), (0, _), (1, _), (2, _)]) dX8_between_61 5 rfl (by decide) rfl ?_
        refine x_goto (pc := 64) 2 dX8_between_64 (by decide) ?_
        have e : ¬ ((N (86 + 6 * c + 0) = a ∧ N (86 + 6 * c + 1) = b) ∨ (N (86 + 6 * c + 0) = b ∧ N (86 + 6 * c + 1) = a)) := by omega
        exact x_lv [3, 4, 5, 0] rfl (ih (c + 1) (by omega) (by omega) (by rw [hz]; show (if _ then _ else _) = _; rw [if_neg e]))
      · refine x_iload (pc := 53) dX8_between_53 0 rfl ?_
        refine x_iload_n (pc := 55) dX8_between_55 3 rfl ?_
        refine x_icmp_ne (pc := 56) 61 dX8_between_56 (by decide) (by unfold inI; omega) ha (fun c_56 => ?_) (fun c_56 => ?_)
        · refine x_iinc (pc := 61) (lv' := [(3, _), (5, _), (4, _), (0, _), (1, _), (2, _)]) dX8_between_61 5 rfl (by decide) rfl ?_
          refine x_goto (pc := 64) 2 dX8_between_64 (by decide) ?_
          have e : ¬ ((N (86 + 6 * c + 0) = a ∧ N (86 + 6 * c + 1) = b) ∨ (N (86 + 6 * c + 0) = b ∧ N (86 + 6 * c + 1) = a)) := by omega
          exact x_lv [3, 4, 5, 0] rfl (ih (c + 1) (by omega) (by omega) (by rw [hz]; show (if _ then _ else _) = _; rw [if_neg e]))
        · refine x_iload_n (pc := 59) dX8_between_59 5 rfl ?_
          exact y_iret (pc := 60) dX8_between_60 rfl (by rw [hz]; show _ = (if _ then _ else _); rw [if_pos (by omega)]) rfl
    · refine x_iload (pc := 41) dX8_between_41 0 rfl ?_
      refine x_iload_n (pc := 43) dX8_between_43 4 rfl ?_
      refine x_icmp_eq (pc := 44) 59 dX8_between_44 (by decide) (by unfold inI; omega) hb (fun c_44 => ?_) (fun c_44 => ?_)
      · refine x_iload_n (pc := 59) dX8_between_59 5 rfl ?_
        exact y_iret (pc := 60) dX8_between_60 rfl (by rw [hz]; show _ = (if _ then _ else _); rw [if_pos (by omega)]) rfl
      · refine x_iload (pc := 47) dX8_between_47 1 rfl ?_
        refine x_iload_n (pc := 49) dX8_between_49 4 rfl ?_
        refine x_icmp_ne (pc := 50) 61 dX8_between_50 (by decide) (by unfold inI; omega) hb (fun c_50 => ?_) (fun c_50 => ?_)
        · refine x_iinc (pc := 61) (lv' := [(3, _), (5, _), (4, _), (0, _), (1, _), (2, _)]) dX8_between_61 5 rfl (by decide) rfl ?_
          refine x_goto (pc := 64) 2 dX8_between_64 (by decide) ?_
          have e : ¬ ((N (86 + 6 * c + 0) = a ∧ N (86 + 6 * c + 1) = b) ∨ (N (86 + 6 * c + 0) = b ∧ N (86 + 6 * c + 1) = a)) := by omega
          exact x_lv [3, 4, 5, 0] rfl (ih (c + 1) (by omega) (by omega) (by rw [hz]; show (if _ then _ else _) = _; rw [if_neg e]))
        · refine x_iload (pc := 53) dX8_between_53 0 rfl ?_
          refine x_iload_n (pc := 55) dX8_between_55 3 rfl ?_
          refine x_icmp_ne (pc := 56) 61 dX8_between_56 (by decide) (by unfold inI; omega) ha (fun c_56 => ?_) (fun c_56 => ?_)
          · refine x_iinc (pc := 61) (lv' := [(3, _), (5, _), (4, _), (0, _), (1, _), (2, _)]) dX8_between_61 5 rfl (by decide) rfl ?_
            refine x_goto (pc := 64) 2 dX8_between_64 (by decide) ?_
            have e : ¬ ((N (86 + 6 * c + 0) = a ∧ N (86 + 6 * c + 1) = b) ∨ (N (86 + 6 * c + 0) = b ∧ N (86 + 6 * c + 1) = a)) := by omega
            exact x_lv [3, 4, 5, 0] rfl (ih (c + 1) (by omega) (by omega) (by rw [hz]; show (if _ then _ else _) = _; rw [if_neg e]))
          · refine x_iload_n (pc := 59) dX8_between_59 5 rfl ?_
            exact y_iret (pc := 60) dX8_between_60 rfl (by rw [hz]; show _ = (if _ then _ else _); rw [if_pos (by omega)]) rfl

theorem mq_between {G : GG} {m : Mem} {N : Int → Int} (a b : Int) (ha : inI a) (hb : inI b) (hU : SU N) : Ct G MX8_between (rmD 0) [rf G 42 0, .int (iI a), .int (iI b)] (hp (sr m N)) (.inl (some (.int (iI (betN N a b))))) (hp (sr m N)) := by
  refine x_entry (by decide +kernel) mwX8_between rfl (Nat.le_of_ble_eq_true rfl) ?_
  show X G MX8_between (rmD 0) 0 [(0, rf G 42 0), (1, .int (iI a)), (2, .int (iI b))] [] (hp (sr m N)) 0 0 (.inl (some (.int (iI (betN N a b))))) (hp (sr m N))
  refine x_iconst (pc := 0) dX8_between_0 ?_
  refine x_istore_n (pc := 1) (lv' := [(3, _), (0, _), (1, _), (2, _)]) dX8_between_1 rfl (by decide) rfl ?_
  have u2 := hU.2.1
  exact x_lv [1, 2, 3, 0] rfl (lp_between a b ha hb hU _ (N 5).toNat 0 (by omega) (by omega) rfl)

theorem mq_cableOf {G : GG} {m : Mem} {N : Int → Int} (c : Int) (hc : 0 ≤ c ∧ c < 8) (h0 : inI (N (270 + 6 * c + 0))) (h1 : inI (N (270 + 6 * c + 1))) (hU : SU N) : Ct G MX8_cableOf (rmD 1) [rf G 41 0, .int (iI c)] (hp (sr m N)) (.inl (some (.int (iI (betN N (N (270 + 6 * c + 0)) (N (270 + 6 * c + 1))))))) (hp (sr m N)) := by
  refine x_entry (by decide +kernel) mwX8_cableOf rfl (Nat.le_of_ble_eq_true rfl) ?_
  show X G MX8_cableOf (rmD 1) 0 [(0, rf G 41 0), (1, .int (iI c))] [] (hp (sr m N)) 0 0 (.inl (some (.int (iI (betN N (N (270 + 6 * c + 0)) (N (270 + 6 * c + 1))))))) (hp (sr m N))
  refine x_aload_n (pc := 0) dX8_cableOf_0 0 rfl ?_
  refine y_getR (pc := 1) dX8_cableOf_1 flX8_9 rfl rfl rfl (by decide) ?_
  refine x_aload_n (pc := 4) dX8_cableOf_4 0 rfl ?_
  refine x_iload_n (pc := 5) dX8_cableOf_5 1 rfl ?_
  refine x_iconst (pc := 6) dX8_cableOf_6 ?_
  refine x_callV (pc := 7) _ dX8_cableOf_7 (mq_ofContract c 0 (by omega)) lkX8_54 rfl rfl rfl rfl (mem_dom0 (by decide) (by decide)) (by decide) (Nat.le_of_ble_eq_true rfl) rfl ?_
  refine x_aload_n (pc := 10) dX8_cableOf_10 0 rfl ?_
  refine x_iload_n (pc := 11) dX8_cableOf_11 1 rfl ?_
  refine x_iconst (pc := 12) dX8_cableOf_12 ?_
  refine x_callV (pc := 13) _ dX8_cableOf_13 (mq_ofContract c 1 (by omega)) lkX8_54 rfl rfl rfl rfl (mem_dom0 (by decide) (by decide)) (by decide) (Nat.le_of_ble_eq_true rfl) rfl ?_
  refine x_callS (pc := 16) _ dX8_cableOf_16 (mq_between _ _ h0 h1 hU) lkX8_134 rfl (by decide) (Nat.le_of_ble_eq_true rfl) rfl ?_
  exact y_iret (pc := 19) dX8_cableOf_19 rfl rfl rfl

theorem lp_gainOf {G : GG} {m : Mem} {N : Int → Int} (q h : Int) (hq : inI q) (hh : 0 ≤ h ∧ h < 24) (hU : SU N) : ∀ (n : Nat) (i a : Int), i + n = N 6 → 0 ≤ i → a = sm (gainT N q h) i.toNat → X G MX8_gainOf (rmD 1) 5 [(0, rf G 41 0), (1, .int (iI q)), (2, .int (iI h)), (3, .int (iI a)), (4, .int (iI i))] [] (hp (sr m N)) 0 0 (.inl (some (.int (iI (sm (gainT N q h) (N 6).toNat))))) (hp (sr m N)) := by
  intro n
  induction n with
  | zero =>
    intro i a hi h0 ha
    have u1 := hU.1
    refine x_iload (pc := 5) dX8_gainOf_5 4 rfl ?_
    refine x_aload_n (pc := 7) dX8_gainOf_7 0 rfl ?_
    refine y_getR (pc := 8) dX8_gainOf_8 flX8_9 rfl rfl rfl (by decide) ?_
    refine x_bipush (pc := 11) (z := 6) dX8_gainOf_11 (by decide) ?_
    refine y_nald (pc := 13) dX8_gainOf_13 (by omega) ?_
    refine x_icmp_ge (pc := 14) 88 dX8_gainOf_14 (by decide) (by unfold inI; omega) (by unfold inI; omega) (fun c_14 => ?_) (fun c_14 => (by exfalso; omega))
    refine x_iload_n (pc := 88) dX8_gainOf_88 3 rfl ?_
    exact y_iret (pc := 89) dX8_gainOf_89 rfl (by rw [ha]; congr 2; omega) rfl
  | succ n ih =>
    intro i a hi h0 ha
    have u1 := hU.1
    have uc := hU.2.2.1 i h0 (by omega)
    refine x_iload (pc := 5) dX8_gainOf_5 4 rfl ?_
    refine x_aload_n (pc := 7) dX8_gainOf_7 0 rfl ?_
    refine y_getR (pc := 8) dX8_gainOf_8 flX8_9 rfl rfl rfl (by decide) ?_
    refine x_bipush (pc := 11) (z := 6) dX8_gainOf_11 (by decide) ?_
    refine y_nald (pc := 13) dX8_gainOf_13 (by omega) ?_
    refine x_icmp_ge (pc := 14) 88 dX8_gainOf_14 (by decide) (by unfold inI; omega) (by unfold inI; omega) (fun c_14 => (by exfalso; omega)) (fun c_14 => ?_)
    refine x_sipush (pc := 17) (z := 158) dX8_gainOf_17 (by decide) ?_
    refine x_iconst (pc := 20) dX8_gainOf_20 ?_
    refine x_iload (pc := 21) dX8_gainOf_21 4 rfl ?_
    refine x_imul (pc := 23) dX8_gainOf_23 ?_
    refine x_iadd (pc := 24) dX8_gainOf_24 ?_
    refine x_istore (pc := 25) (lv' := [(5, _), (0, _), (1, _), (2, _), (3, _), (4, _)]) dX8_gainOf_25 (by decide) rfl ?_
    refine x_iload_n (pc := 27) dX8_gainOf_27 4 rfl ?_
    refine x_aload_n (pc := 28) dX8_gainOf_28 1 rfl ?_
    refine y_getR (pc := 29) dX8_gainOf_29 flX8_9 rfl rfl rfl (by decide) ?_
    refine x_iload (pc := 32) dX8_gainOf_32 0 rfl ?_
    refine y_nald (pc := 34) dX8_gainOf_34 (by omega) ?_
    refine x_iload_n (pc := 35) dX8_gainOf_35 2 rfl ?_
    refine x_icmp_ne (pc := 36) 79 dX8_gainOf_36 (by decide) (by unfold inI; omega) hq (fun c_36 => ?_) (fun c_36 => ?_)
    · refine x_iconst (pc := 79) dX8_gainOf_79 ?_
      refine x_iadd (pc := 80) dX8_gainOf_80 ?_
      refine x_istore_n (pc := 81) (lv' := [(3, _), (5, _), (0, _), (1, _), (2, _), (4, _)]) dX8_gainOf_81 rfl (by decide) rfl ?_
      refine x_iinc (pc := 82) (lv' := [(4, _), (3, _), (5, _), (0, _), (1, _), (2, _)]) dX8_gainOf_82 5 rfl (by decide) rfl ?_
      refine x_goto (pc := 85) 5 dX8_gainOf_85 (by decide) ?_
      exact x_lv [3, 4, 5, 1, 0] rfl (ih (i + 1) (a + 0) (by omega) (by omega) (by rw [sm_succ _ h0, ← ha]; unfold gainT; rw [if_neg (by omega)]))
    · refine x_iload_n (pc := 39) dX8_gainOf_39 3 rfl ?_
      refine x_i2l (pc := 40) dX8_gainOf_40 (by unfold inI; omega) ?_
      refine x_aload_n (pc := 41) dX8_gainOf_41 1 rfl ?_
      refine y_getR (pc := 42) dX8_gainOf_42 flX8_9 rfl rfl rfl (by decide) ?_
      refine x_iload (pc := 45) dX8_gainOf_45 0 rfl ?_
      refine x_iconst (pc := 47) dX8_gainOf_47 ?_
      refine x_iadd (pc := 48) dX8_gainOf_48 ?_
      refine y_nald (pc := 49) dX8_gainOf_49 (by omega) ?_
      refine x_i2l (pc := 50) dX8_gainOf_50 (by unfold inI; omega) ?_
      refine x_aload_n (pc := 51) dX8_gainOf_51 1 rfl ?_
      refine y_getR (pc := 52) dX8_gainOf_52 flX8_9 rfl rfl rfl (by decide) ?_
      refine x_iload (pc := 55) dX8_gainOf_55 0 rfl ?_
      refine x_iconst (pc := 57) dX8_gainOf_57 ?_
      refine x_iadd (pc := 58) dX8_gainOf_58 ?_
      refine y_nald (pc := 59) dX8_gainOf_59 (by omega) ?_
      refine x_i2l (pc := 60) dX8_gainOf_60 (by unfold inI; omega) ?_
      refine x_callS (pc := 61) _ dX8_gainOf_61 (mq_in h (N (158 + 4 * i + 1)) (N (158 + 4 * i + 2)) (by unfold inL; omega) (by unfold inL; omega) (by unfold inL; omega)) lkX8_44 rfl (by decide) (Nat.le_of_ble_eq_true rfl) rfl ?_
      refine x_ifb_eq (pc := 64) 79 dX8_gainOf_64 (by decide) (fun c_64 => ?_) (fun c_64 => ?_)
      · refine x_iconst (pc := 79) dX8_gainOf_79 ?_
        refine x_iadd (pc := 80) dX8_gainOf_80 ?_
        refine x_istore_n (pc := 81) (lv' := [(3, _), (5, _), (0, _), (1, _), (2, _), (4, _)]) dX8_gainOf_81 rfl (by decide) rfl ?_
        refine x_iinc (pc := 82) (lv' := [(4, _), (3, _), (5, _), (0, _), (1, _), (2, _)]) dX8_gainOf_82 5 rfl (by decide) rfl ?_
        refine x_goto (pc := 85) 5 dX8_gainOf_85 (by decide) ?_
        exact x_lv [3, 4, 5, 1, 0] rfl (ih (i + 1) (a + 0) (by omega) (by omega) (by rw [sm_succ _ h0, ← ha]; unfold gainT; rw [if_neg (by omega)]))
      · refine x_aload_n (pc := 67) dX8_gainOf_67 1 rfl ?_
        refine y_getR (pc := 68) dX8_gainOf_68 flX8_9 rfl rfl rfl (by decide) ?_
        refine x_iload (pc := 71) dX8_gainOf_71 0 rfl ?_
        refine x_iconst (pc := 73) dX8_gainOf_73 ?_
        refine x_iadd (pc := 74) dX8_gainOf_74 ?_
        refine y_nald (pc := 75) dX8_gainOf_75 (by omega) ?_
        refine x_goto (pc := 76) 80 dX8_gainOf_76 (by decide) ?_
        refine x_iadd (pc := 80) dX8_gainOf_80 ?_
        refine x_istore_n (pc := 81) (lv' := [(3, _), (5, _), (0, _), (1, _), (2, _), (4, _)]) dX8_gainOf_81 rfl (by decide) rfl ?_
        refine x_iinc (pc := 82) (lv' := [(4, _), (3, _), (5, _), (0, _), (1, _), (2, _)]) dX8_gainOf_82 5 rfl (by decide) rfl ?_
        refine x_goto (pc := 85) 5 dX8_gainOf_85 (by decide) ?_
        exact x_lv [3, 4, 5, 1, 0] rfl (ih (i + 1) (a + N (158 + 4 * i + 3)) (by omega) (by omega) (by rw [sm_succ _ h0, ← ha]; unfold gainT; rw [if_pos (by omega)]))

theorem mq_gainOf {G : GG} {m : Mem} {N : Int → Int} (q h : Int) (hq : inI q) (hh : 0 ≤ h ∧ h < 24) (hU : SU N) : Ct G MX8_gainOf (rmD 1) [rf G 41 0, .int (iI q), .int (iI h)] (hp (sr m N)) (.inl (some (.int (iI (gainN N q h))))) (hp (sr m N)) := by
  refine x_entry (by decide +kernel) mwX8_gainOf rfl (Nat.le_of_ble_eq_true rfl) ?_
  show X G MX8_gainOf (rmD 1) 0 [(0, rf G 41 0), (1, .int (iI q)), (2, .int (iI h))] [] (hp (sr m N)) 0 0 (.inl (some (.int (iI (gainN N q h))))) (hp (sr m N))
  refine x_iconst (pc := 0) dX8_gainOf_0 ?_
  refine x_istore_n (pc := 1) (lv' := [(3, _), (0, _), (1, _), (2, _)]) dX8_gainOf_1 rfl (by decide) rfl ?_
  refine x_iconst (pc := 2) dX8_gainOf_2 ?_
  refine x_istore (pc := 3) (lv' := [(4, _), (3, _), (0, _), (1, _), (2, _)]) dX8_gainOf_3 (by decide) rfl ?_
  have u1 := hU.1
  exact x_lv [2, 3, 4, 1, 0] rfl (lp_gainOf q h hq hh hU (N 6).toNat 0 0 (by omega) (by omega) rfl)

theorem mq_sends {G : GG} {m : Mem} {N : Int → Int} (c a b x : Int) (hc : 0 ≤ c ∧ c < 12) (hl : 0 ≤ N (86 + 6 * c + 2) ∧ N (86 + 6 * c + 2) ≤ 900) (ha : PN N a) (qa : QN N a) (hx : 0 ≤ x ∧ x ≤ N (30 + 7 * a + 1) ∧ x ≤ 1000000) (hb : PN (carryN (giveN N a x) c x (x * N (86 + 6 * c + 2) / 1000)) b) (hy : carryN (giveN N a x) c x (x * N (86 + 6 * c + 2) / 1000) (30 + 7 * b + 1) + (x - x * N (86 + 6 * c + 2) / 1000) ≤ 1000000) : Ct G MX8_sends (rmD 5) [rf G 41 0, .int (iI c), .int (iI a), .int (iI b), .int (iI x)] (hp (sr m N)) (.inl (some (.int (iI (x - x * N (86 + 6 * c + 2) / 1000))))) (hp (sr m (sendsN N c a b x))) := by
  refine x_entry (by decide +kernel) mwX8_sends rfl (Nat.le_of_ble_eq_true rfl) ?_
  show X G MX8_sends (rmD 5) 0 [(0, rf G 41 0), (1, .int (iI c)), (2, .int (iI a)), (3, .int (iI b)), (4, .int (iI x))] [] (hp (sr m N)) 0 0 (.inl (some (.int (iI (x - x * N (86 + 6 * c + 2) / 1000))))) (hp (sr m (sendsN N c a b x)))
  have h1 : x * N (86 + 6 * c + 2) ≤ x * 900 := Int.mul_le_mul_of_nonneg_left hl.2 hx.1
  have h2 : 0 ≤ x * N (86 + 6 * c + 2) := Int.mul_nonneg hx.1 hl.1
  have hb4 := hb.2.2.2.2
  refine x_iload (pc := 0) dX8_sends_0 4 rfl ?_
  refine x_aload_n (pc := 2) dX8_sends_2 0 rfl ?_
  refine x_iload_n (pc := 3) dX8_sends_3 1 rfl ?_
  refine x_iconst (pc := 4) dX8_sends_4 ?_
  refine x_callV (pc := 5) _ dX8_sends_5 (mq_ofCable (c) 2 (by omega)) lkX8_237 rfl rfl rfl rfl (mem_dom0 (by decide) (by decide)) (by decide) (Nat.le_of_ble_eq_true rfl) rfl ?_
  refine x_callS (pc := 8) _ dX8_sends_8 (mq_lossOf x _ (by omega) hl) lkX8_298 rfl (by decide) (Nat.le_of_ble_eq_true rfl) rfl ?_
  refine x_istore (pc := 11) (lv' := [(5, _), (0, _), (1, _), (2, _), (3, _), (4, _)]) dX8_sends_11 (by decide) rfl ?_
  refine x_aload_n (pc := 13) dX8_sends_13 1 rfl ?_
  refine x_iload_n (pc := 14) dX8_sends_14 3 rfl ?_
  refine x_iload (pc := 15) dX8_sends_15 5 rfl ?_
  refine x_callV (pc := 17) _ dX8_sends_17 (mq_gives a x ha qa hx) lkX8_305 rfl rfl rfl rfl (mem_dom0 (by decide) (by decide)) (by decide) (Nat.le_of_ble_eq_true rfl) rfl ?_
  refine x_aload_n (pc := 20) dX8_sends_20 1 rfl ?_
  refine y_getR (pc := 21) dX8_sends_21 flX8_9 rfl rfl rfl (by decide) ?_
  refine x_bipush (pc := 24) (z := 86) dX8_sends_24 (by decide) ?_
  refine x_bipush (pc := 26) (z := 6) dX8_sends_26 (by decide) ?_
  refine x_iload_n (pc := 28) dX8_sends_28 2 rfl ?_
  refine x_imul (pc := 29) dX8_sends_29 ?_
  refine x_iadd (pc := 30) dX8_sends_30 ?_
  refine x_iconst (pc := 31) dX8_sends_31 ?_
  refine x_iadd (pc := 32) dX8_sends_32 ?_
  refine x_dup2 (pc := 33) dX8_sends_33 rfl rfl ?_
  refine y_nald (pc := 34) dX8_sends_34 (by omega) ?_
  refine x_iload (pc := 35) dX8_sends_35 5 rfl ?_
  refine x_iadd (pc := 37) dX8_sends_37 ?_
  refine y_nast (pc := 38) dX8_sends_38 (by omega) ?_
  refine x_aload_n (pc := 39) dX8_sends_39 1 rfl ?_
  refine y_getR (pc := 40) dX8_sends_40 flX8_9 rfl rfl rfl (by decide) ?_
  refine x_bipush (pc := 43) (z := 86) dX8_sends_43 (by decide) ?_
  refine x_bipush (pc := 45) (z := 6) dX8_sends_45 (by decide) ?_
  refine x_iload_n (pc := 47) dX8_sends_47 2 rfl ?_
  refine x_imul (pc := 48) dX8_sends_48 ?_
  refine x_iadd (pc := 49) dX8_sends_49 ?_
  refine x_iconst (pc := 50) dX8_sends_50 ?_
  refine x_iadd (pc := 51) dX8_sends_51 ?_
  refine x_dup2 (pc := 52) dX8_sends_52 rfl rfl ?_
  refine y_nald (pc := 53) dX8_sends_53 (by omega) ?_
  refine x_iload (pc := 54) dX8_sends_54 0 rfl ?_
  refine x_iadd (pc := 56) dX8_sends_56 ?_
  refine y_nast (pc := 57) dX8_sends_57 (by omega) ?_
  refine x_aload_n (pc := 58) dX8_sends_58 1 rfl ?_
  refine y_getR (pc := 59) dX8_sends_59 flX8_9 rfl rfl rfl (by decide) ?_
  refine x_bipush (pc := 62) (z := 12) dX8_sends_62 (by decide) ?_
  refine x_dup2 (pc := 64) dX8_sends_64 rfl rfl ?_
  refine y_nald (pc := 65) dX8_sends_65 (by omega) ?_
  refine x_iload (pc := 66) dX8_sends_66 0 rfl ?_
  refine x_iadd (pc := 68) dX8_sends_68 ?_
  refine y_nast (pc := 69) dX8_sends_69 (by omega) ?_
  refine x_nil (m' := sr m (carryN (giveN N a x) c x (x * N (86 + 6 * c + 2) / 1000))) rfl ?_
  refine x_aload_n (pc := 70) dX8_sends_70 1 rfl ?_
  refine x_iload_n (pc := 71) dX8_sends_71 4 rfl ?_
  refine x_iload (pc := 72) dX8_sends_72 5 rfl ?_
  refine x_iload (pc := 74) dX8_sends_74 0 rfl ?_
  refine x_isub (pc := 76) dX8_sends_76 ?_
  refine x_callV (pc := 77) _ dX8_sends_77 (mq_gets b _ hb (by omega)) lkX8_301 rfl rfl rfl rfl (mem_dom0 (by decide) (by decide)) (by decide) (Nat.le_of_ble_eq_true rfl) rfl ?_
  refine x_iload (pc := 80) dX8_sends_80 5 rfl ?_
  refine x_iload (pc := 82) dX8_sends_82 0 rfl ?_
  refine x_isub (pc := 84) dX8_sends_84 ?_
  exact y_iret (pc := 85) dX8_sends_85 rfl rfl rfl
