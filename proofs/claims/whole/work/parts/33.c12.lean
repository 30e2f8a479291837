abbrev ML_count_h : List (Nat × Nat × Nat × Nat) := [(0, 9, 12, 13)]
abbrev ML_count : Mth := (yL_count, cL_count, 4, some .int, tableOf ML_count_h)
theorem mwL_count : Cond.codeWith ML_count.1 ML_count.2.1 ML_count.2.2.1 ML_count.2.2.2.1 ML_count_h ∈ lw_all := in_all 633 (by decide +kernel) rfl
abbrev ML_pack_h : List (Nat × Nat × Nat × Nat) := [(0, 10, 13, 19), (0, 10, 17, 13)]
abbrev ML_pack : Mth := (yL_pack, cL_pack, 5, some .int, tableOf ML_pack_h)
theorem mwL_pack : Cond.codeWith ML_pack.1 ML_pack.2.1 ML_pack.2.2.1 ML_pack.2.2.2.1 ML_pack_h ∈ lw_all := in_all 714 (by decide +kernel) rfl
abbrev ML_cable_h : List (Nat × Nat × Nat × Nat) := [(0, 12, 15, 19), (0, 12, 19, 13)]
abbrev ML_cable : Mth := (yL_cable, cL_cable, 6, some .int, tableOf ML_cable_h)
theorem mwL_cable : Cond.codeWith ML_cable.1 ML_cable.2.1 ML_cable.2.2.1 ML_cable.2.2.2.1 ML_cable_h ∈ lw_all := in_all 753 (by decide +kernel) rfl
abbrev ML_gainAt_h : List (Nat × Nat × Nat × Nat) := [(0, 10, 13, 19), (0, 10, 17, 13)]
abbrev ML_gainAt : Mth := (yL_gainAt, cL_gainAt, 5, some .int, tableOf ML_gainAt_h)
theorem mwL_gainAt : Cond.codeWith ML_gainAt.1 ML_gainAt.2.1 ML_gainAt.2.2.1 ML_gainAt.2.2.2.1 ML_gainAt_h ∈ lw_all := in_all 761 (by decide +kernel) rfl
abbrev ML_trip_h : List (Nat × Nat × Nat × Nat) := [(0, 10, 13, 19), (0, 10, 17, 13)]
abbrev ML_trip : Mth := (yL_trip, cL_trip, 5, some .int, tableOf ML_trip_h)
theorem mwL_trip : Cond.codeWith ML_trip.1 ML_trip.2.1 ML_trip.2.2.1 ML_trip.2.2.2.1 ML_trip_h ∈ lw_all := in_all 772 (by decide +kernel) rfl
abbrev ML_contract_h : List (Nat × Nat × Nat × Nat) := [(0, 10, 13, 19), (0, 10, 17, 13)]
abbrev ML_contract : Mth := (yL_contract, cL_contract, 5, some .int, tableOf ML_contract_h)
theorem mwL_contract : Cond.codeWith ML_contract.1 ML_contract.2.1 ML_contract.2.2.1 ML_contract.2.2.2.1 ML_contract_h ∈ lw_all := in_all 779 (by decide +kernel) rfl
abbrev ML_loan_h : List (Nat × Nat × Nat × Nat) := [(0, 10, 13, 19), (0, 10, 17, 13)]
abbrev ML_loan : Mth := (yL_loan, cL_loan, 5, some .int, tableOf ML_loan_h)
theorem mwL_loan : Cond.codeWith ML_loan.1 ML_loan.2.1 ML_loan.2.2.1 ML_loan.2.2.2.1 ML_loan_h ∈ lw_all := in_all 811 (by decide +kernel) rfl
abbrev ML_total_h : List (Nat × Nat × Nat × Nat) := [(0, 8, 11, 13)]
abbrev ML_total : Mth := (yL_total, cL_total, 4, some .int, tableOf ML_total_h)
theorem mwL_total : Cond.codeWith ML_total.1 ML_total.2.1 ML_total.2.2.1 ML_total.2.2.2.1 ML_total_h ∈ lw_all := in_all 819 (by decide +kernel) rfl
abbrev ML_fullness_h : List (Nat × Nat × Nat × Nat) := [(0, 9, 12, 19)]
abbrev ML_fullness : Mth := (yL_fullness, cL_fullness, 4, some .int, tableOf ML_fullness_h)
theorem mwL_fullness : Cond.codeWith ML_fullness.1 ML_fullness.2.1 ML_fullness.2.2.1 ML_fullness.2.2.2.1 ML_fullness_h ∈ lw_all := in_all 829 (by decide +kernel) rfl
abbrev ML_interest_h : List (Nat × Nat × Nat × Nat) := [(0, 10, 13, 19), (0, 10, 17, 13)]
abbrev ML_interest : Mth := (yL_interest, cL_interest, 5, some .int, tableOf ML_interest_h)
theorem mwL_interest : Cond.codeWith ML_interest.1 ML_interest.2.1 ML_interest.2.2.1 ML_interest.2.2.2.1 ML_interest_h ∈ lw_all := in_all 836 (by decide +kernel) rfl
abbrev ML_hindrance_h : List (Nat × Nat × Nat × Nat) := [(0, 10, 13, 19), (0, 10, 17, 13)]
abbrev ML_hindrance : Mth := (yL_hindrance, cL_hindrance, 5, some .int, tableOf ML_hindrance_h)
theorem mwL_hindrance : Cond.codeWith ML_hindrance.1 ML_hindrance.2.1 ML_hindrance.2.2.1 ML_hindrance.2.2.2.1 ML_hindrance_h ∈ lw_all := in_all 855 (by decide +kernel) rfl
abbrev ML_cheapest_h : List (Nat × Nat × Nat × Nat) := [(0, 10, 13, 19), (0, 10, 17, 13)]
abbrev ML_cheapest : Mth := (yL_cheapest, cL_cheapest, 5, some .int, tableOf ML_cheapest_h)
theorem mwL_cheapest : Cond.codeWith ML_cheapest.1 ML_cheapest.2.1 ML_cheapest.2.2.1 ML_cheapest.2.2.2.1 ML_cheapest_h ∈ lw_all := in_all 868 (by decide +kernel) rfl
abbrev ML_lend_h : List (Nat × Nat × Nat × Nat) := [(0, 12, 15, 19), (0, 12, 19, 13)]
abbrev ML_lend : Mth := (yL_lend, cL_lend, 6, some .int, tableOf ML_lend_h)
theorem mwL_lend : Cond.codeWith ML_lend.1 ML_lend.2.1 ML_lend.2.2.1 ML_lend.2.2.2.1 ML_lend_h ∈ lw_all := in_all 885 (by decide +kernel) rfl
abbrev ML_recall_h : List (Nat × Nat × Nat × Nat) := [(0, 9, 12, 19)]
abbrev ML_recall : Mth := (yL_recall, cL_recall, 4, some .int, tableOf ML_recall_h)
theorem mwL_recall : Cond.codeWith ML_recall.1 ML_recall.2.1 ML_recall.2.2.1 ML_recall.2.2.2.1 ML_recall_h ∈ lw_all := in_all 901 (by decide +kernel) rfl
abbrev ML_giveBack_h : List (Nat × Nat × Nat × Nat) := [(0, 9, 12, 19)]
abbrev ML_giveBack : Mth := (yL_giveBack, cL_giveBack, 4, some .int, tableOf ML_giveBack_h)
theorem mwL_giveBack : Cond.codeWith ML_giveBack.1 ML_giveBack.2.1 ML_giveBack.2.2.1 ML_giveBack.2.2.2.1 ML_giveBack_h ∈ lw_all := in_all 913 (by decide +kernel) rfl
abbrev ML_forgive_h : List (Nat × Nat × Nat × Nat) := [(0, 9, 12, 19)]
abbrev ML_forgive : Mth := (yL_forgive, cL_forgive, 4, some .int, tableOf ML_forgive_h)
theorem mwL_forgive : Cond.codeWith ML_forgive.1 ML_forgive.2.1 ML_forgive.2.2.1 ML_forgive.2.2.2.1 ML_forgive_h ∈ lw_all := in_all 920 (by decide +kernel) rfl
abbrev ML_mend_h : List (Nat × Nat × Nat × Nat) := [(0, 9, 12, 19)]
abbrev ML_mend : Mth := (yL_mend, cL_mend, 4, some .int, tableOf ML_mend_h)
theorem mwL_mend : Cond.codeWith ML_mend.1 ML_mend.2.1 ML_mend.2.2.1 ML_mend.2.2.2.1 ML_mend_h ∈ lw_all := in_all 927 (by decide +kernel) rfl
abbrev ML_charge_h : List (Nat × Nat × Nat × Nat) := [(0, 10, 13, 19), (0, 10, 17, 13)]
abbrev ML_charge : Mth := (yL_charge, cL_charge, 5, some .int, tableOf ML_charge_h)
theorem mwL_charge : Cond.codeWith ML_charge.1 ML_charge.2.1 ML_charge.2.2.1 ML_charge.2.2.2.1 ML_charge_h ∈ lw_all := in_all 934 (by decide +kernel) rfl
abbrev ML_drain_h : List (Nat × Nat × Nat × Nat) := [(0, 10, 13, 19), (0, 10, 17, 13)]
abbrev ML_drain : Mth := (yL_drain, cL_drain, 5, some .int, tableOf ML_drain_h)
theorem mwL_drain : Cond.codeWith ML_drain.1 ML_drain.2.1 ML_drain.2.2.1 ML_drain.2.2.2.1 ML_drain_h ∈ lw_all := in_all 949 (by decide +kernel) rfl
abbrev ML_setReserve_h : List (Nat × Nat × Nat × Nat) := [(0, 10, 13, 19), (0, 10, 17, 13)]
abbrev ML_setReserve : Mth := (yL_setReserve, cL_setReserve, 5, some .int, tableOf ML_setReserve_h)
theorem mwL_setReserve : Cond.codeWith ML_setReserve.1 ML_setReserve.2.1 ML_setReserve.2.2.1 ML_setReserve.2.2.2.1 ML_setReserve_h ∈ lw_all := in_all 961 (by decide +kernel) rfl
abbrev ML_setCable_h : List (Nat × Nat × Nat × Nat) := [(0, 14, 17, 19), (0, 14, 21, 13)]
abbrev ML_setCable : Mth := (yL_setCable, cL_setCable, 7, some .int, tableOf ML_setCable_h)
theorem mwL_setCable : Cond.codeWith ML_setCable.1 ML_setCable.2.1 ML_setCable.2.2.1 ML_setCable.2.2.2.1 ML_setCable_h ∈ lw_all := in_all 968 (by decide +kernel) rfl
abbrev ML_addTrip_h : List (Nat × Nat × Nat × Nat) := [(0, 12, 15, 19), (0, 12, 19, 13)]
abbrev ML_addTrip : Mth := (yL_addTrip, cL_addTrip, 6, some .int, tableOf ML_addTrip_h)
theorem mwL_addTrip : Cond.codeWith ML_addTrip.1 ML_addTrip.2.1 ML_addTrip.2.2.1 ML_addTrip.2.2.2.1 ML_addTrip_h ∈ lw_all := in_all 975 (by decide +kernel) rfl
abbrev ML_dropTrip_h : List (Nat × Nat × Nat × Nat) := [(0, 9, 12, 19)]
abbrev ML_dropTrip : Mth := (yL_dropTrip, cL_dropTrip, 4, some .int, tableOf ML_dropTrip_h)
theorem mwL_dropTrip : Cond.codeWith ML_dropTrip.1 ML_dropTrip.2.1 ML_dropTrip.2.2.1 ML_dropTrip.2.2.2.1 ML_dropTrip_h ∈ lw_all := in_all 983 (by decide +kernel) rfl
abbrev ML_run_h : List (Nat × Nat × Nat × Nat) := [(0, 9, 12, 13)]
abbrev ML_run : Mth := (yL_run, cL_run, 4, some .int, tableOf ML_run_h)
theorem mwL_run : Cond.codeWith ML_run.1 ML_run.2.1 ML_run.2.2.1 ML_run.2.2.2.1 ML_run_h ∈ lw_all := in_all 994 (by decide +kernel) rfl
abbrev ML_runToClosed_h : List (Nat × Nat × Nat × Nat) := [(0, 10, 13, 19), (0, 10, 17, 13)]
abbrev ML_runToClosed : Mth := (yL_runToClosed, cL_runToClosed, 5, some .int, tableOf ML_runToClosed_h)
theorem mwL_runToClosed : Cond.codeWith ML_runToClosed.1 ML_runToClosed.2.1 ML_runToClosed.2.2.1 ML_runToClosed.2.2.2.1 ML_runToClosed_h ∈ lw_all := in_all 1047 (by decide +kernel) rfl
abbrev ML_chargeIn_h : List (Nat × Nat × Nat × Nat) := [(0, 10, 13, 19), (0, 10, 17, 13)]
abbrev ML_chargeIn : Mth := (yL_chargeIn, cL_chargeIn, 5, some .int, tableOf ML_chargeIn_h)
theorem mwL_chargeIn : Cond.codeWith ML_chargeIn.1 ML_chargeIn.2.1 ML_chargeIn.2.2.1 ML_chargeIn.2.2.2.1 ML_chargeIn_h ∈ lw_all := in_all 1058 (by decide +kernel) rfl
abbrev ML_missIn_h : List (Nat × Nat × Nat × Nat) := [(0, 9, 12, 19)]
abbrev ML_missIn : Mth := (yL_missIn, cL_missIn, 4, some .int, tableOf ML_missIn_h)
theorem mwL_missIn : Cond.codeWith ML_missIn.1 ML_missIn.2.1 ML_missIn.2.2.1 ML_missIn.2.2.2.1 ML_missIn_h ∈ lw_all := in_all 1066 (by decide +kernel) rfl
abbrev ML_endIn_h : List (Nat × Nat × Nat × Nat) := [(0, 9, 12, 19)]
abbrev ML_endIn : Mth := (yL_endIn, cL_endIn, 4, some .int, tableOf ML_endIn_h)
theorem mwL_endIn : Cond.codeWith ML_endIn.1 ML_endIn.2.1 ML_endIn.2.2.1 ML_endIn.2.2.2.1 ML_endIn_h ∈ lw_all := in_all 1074 (by decide +kernel) rfl
abbrev ML_endAs_h : List (Nat × Nat × Nat × Nat) := [(0, 9, 12, 19)]
abbrev ML_endAs : Mth := (yL_endAs, cL_endAs, 4, some .int, tableOf ML_endAs_h)
theorem mwL_endAs : Cond.codeWith ML_endAs.1 ML_endAs.2.1 ML_endAs.2.2.1 ML_endAs.2.2.2.1 ML_endAs_h ∈ lw_all := in_all 1081 (by decide +kernel) rfl
abbrev ML_lacks_h : List (Nat × Nat × Nat × Nat) := [(0, 9, 12, 19)]
abbrev ML_lacks : Mth := (yL_lacks, cL_lacks, 4, some .int, tableOf ML_lacks_h)
theorem mwL_lacks : Cond.codeWith ML_lacks.1 ML_lacks.2.1 ML_lacks.2.2.1 ML_lacks.2.2.2.1 ML_lacks_h ∈ lw_all := in_all 1088 (by decide +kernel) rfl
abbrev ML_isSafe_h : List (Nat × Nat × Nat × Nat) := [(0, 19, 22, 19), (0, 19, 26, 13)]
abbrev ML_isSafe : Mth := (yL_isSafe, cL_isSafe, 6, some .int, tableOf ML_isSafe_h)
theorem mwL_isSafe : Cond.codeWith ML_isSafe.1 ML_isSafe.2.1 ML_isSafe.2.2.1 ML_isSafe.2.2.2.1 ML_isSafe_h ∈ lw_all := in_all 1098 (by decide +kernel) rfl
abbrev ML_wearIn_h : List (Nat × Nat × Nat × Nat) := [(0, 10, 13, 19), (0, 10, 17, 13)]
abbrev ML_wearIn : Mth := (yL_wearIn, cL_wearIn, 5, some .int, tableOf ML_wearIn_h)
theorem mwL_wearIn : Cond.codeWith ML_wearIn.1 ML_wearIn.2.1 ML_wearIn.2.2.1 ML_wearIn.2.2.2.1 ML_wearIn_h ∈ lw_all := in_all 1105 (by decide +kernel) rfl
abbrev ML_owes_h : List (Nat × Nat × Nat × Nat) := [(0, 9, 12, 19)]
abbrev ML_owes : Mth := (yL_owes, cL_owes, 4, some .int, tableOf ML_owes_h)
theorem mwL_owes : Cond.codeWith ML_owes.1 ML_owes.2.1 ML_owes.2.2.1 ML_owes.2.2.2.1 ML_owes_h ∈ lw_all := in_all 1112 (by decide +kernel) rfl
abbrev ML_isOwed_h : List (Nat × Nat × Nat × Nat) := [(0, 9, 12, 19)]
abbrev ML_isOwed : Mth := (yL_isOwed, cL_isOwed, 4, some .int, tableOf ML_isOwed_h)
theorem mwL_isOwed : Cond.codeWith ML_isOwed.1 ML_isOwed.2.1 ML_isOwed.2.2.1 ML_isOwed.2.2.2.1 ML_isOwed_h ∈ lw_all := in_all 1123 (by decide +kernel) rfl
abbrev ML_saveSnapshot_h : List (Nat × Nat × Nat × Nat) := [(0, 9, 12, 13)]
abbrev ML_saveSnapshot : Mth := (yL_saveSnapshot, cL_saveSnapshot, 4, some .int, tableOf ML_saveSnapshot_h)
theorem mwL_saveSnapshot : Cond.codeWith ML_saveSnapshot.1 ML_saveSnapshot.2.1 ML_saveSnapshot.2.2.1 ML_saveSnapshot.2.2.2.1 ML_saveSnapshot_h ∈ lw_all := in_all 1130 (by decide +kernel) rfl
abbrev ML_restoreSnapshot_h : List (Nat × Nat × Nat × Nat) := [(0, 9, 12, 13)]
abbrev ML_restoreSnapshot : Mth := (yL_restoreSnapshot, cL_restoreSnapshot, 4, some .int, tableOf ML_restoreSnapshot_h)
theorem mwL_restoreSnapshot : Cond.codeWith ML_restoreSnapshot.1 ML_restoreSnapshot.2.1 ML_restoreSnapshot.2.2.1 ML_restoreSnapshot.2.2.2.1 ML_restoreSnapshot_h ∈ lw_all := in_all 1137 (by decide +kernel) rfl
theorem clIO : Cond.classLink RL 19 "java/lang/IndexOutOfBoundsException" ∈ lw_ctx := in_ctx 715 (by decide +kernel) rfl
theorem clIA : Cond.classLink RL 13 "java/lang/IllegalArgumentException" ∈ lw_ctx := in_ctx 634 (by decide +kernel) rfl
theorem hq_count {G : GG} {m m1 : Mem} {a0 : Int} {r : Int} (hr : inI r) (hc : Ct G MX7_count (rmD 9) [rf G 38 0, .int (iI a0)] (hp m) (.inl (some (.int (iI (r))))) (hp m1)) : CtW G ML_count ML_count_h (rmD 10) [rf G 38 0, .int (iI a0), rf G 49 0] (hp (m)) (.inl (some (.int (iI (0))))) (hp (up3 m1 49 0 0 r)) := by
  refine x_entryW (by decide +kernel) mwL_count rfl (Nat.le_of_ble_eq_true rfl) ?_
  show X G ML_count (rmD 10) 0 [(0, rf G 38 0), (1, .int (iI a0)), (2, rf G 49 0)] [] (hp (m)) 0 0 (.inl (some (.int (iI (0))))) (hp (up3 m1 49 0 0 r))
  refine x_aload_n (pc := 0) dL_count_0 2 rfl ?_
  refine x_iconst (pc := 1) dL_count_1 ?_
  refine x_aload_n (pc := 2) dL_count_2 0 rfl ?_
  refine x_iload_n (pc := 3) dL_count_3 1 rfl ?_
  refine x_callV (pc := 4) _ dL_count_4 (hc) lkL_7 rfl rfl rfl rfl (mem_dom0 (by decide) (by decide)) (by decide) (Nat.le_of_ble_eq_true rfl) rfl ?_
  refine x_i2l (pc := 7) dL_count_7 hr ?_
  refine y_last (pc := 8) dL_count_8 rfl (by decide) (by omega) ?_
  refine x_goto (pc := 9) 15 dL_count_9 (by decide) ?_
  refine x_iconst (pc := 15) dL_count_15 ?_
  exact y_iret (pc := 16) dL_count_16 rfl rfl rfl

theorem hq_count_iaE {G : GG} {m m1 : Mem} {a0 : Int} (hc : Ct G MX7_count (rmE 1) [rf G 38 0, .int (iI a0)] (hp m) (.inr iaE) (hp m1)) : CtW G ML_count ML_count_h (rmE 2) [rf G 38 0, .int (iI a0), rf G 49 0] (hp (m)) (.inl (some (.int (iI (1))))) (hp (m1)) := by
  refine x_entryW (by decide +kernel) mwL_count rfl (Nat.le_of_ble_eq_true rfl) ?_
  show X G ML_count (rmE 2) 0 [(0, rf G 38 0), (1, .int (iI a0)), (2, rf G 49 0)] [] (hp (m)) 0 0 (.inl (some (.int (iI (1))))) (hp (m1))
  refine x_aload_n (pc := 0) dL_count_0 2 rfl ?_
  refine x_iconst (pc := 1) dL_count_1 ?_
  refine x_aload_n (pc := 2) dL_count_2 0 rfl ?_
  refine x_iload_n (pc := 3) dL_count_3 1 rfl ?_
  refine x_callVC (pc := 4) _ dL_count_4 (hc) lkL_7 rfl rfl rfl rfl (mem_dom0 (by decide) (by decide)) (by decide) (Nat.le_of_ble_eq_true rfl) rfl [] _ _ rfl (fun z hz => nomatch hz) (by decide) (by decide) clIA (by decide) (fun q => ?_)
  refine x_astore_n (pc := 12) (lv' := [(3, _), (0, _), (1, _), (2, _)]) dL_count_12 rfl (by decide) rfl ?_
  refine x_iconst (pc := 13) dL_count_13 ?_
  exact y_iret (pc := 14) dL_count_14 rfl rfl rfl

theorem hq_pack {G : GG} {m m1 : Mem} {a0 a1 : Int} {r : Int} (hr : inI r) (hc : Ct G MX7_pack (rmD 9) [rf G 38 0, .int (iI a0), .int (iI a1)] (hp m) (.inl (some (.int (iI (r))))) (hp m1)) : CtW G ML_pack ML_pack_h (rmD 10) [rf G 38 0, .int (iI a0), .int (iI a1), rf G 49 0] (hp (m)) (.inl (some (.int (iI (0))))) (hp (up3 m1 49 0 0 r)) := by
  refine x_entryW (by decide +kernel) mwL_pack rfl (Nat.le_of_ble_eq_true rfl) ?_
  show X G ML_pack (rmD 10) 0 [(0, rf G 38 0), (1, .int (iI a0)), (2, .int (iI a1)), (3, rf G 49 0)] [] (hp (m)) 0 0 (.inl (some (.int (iI (0))))) (hp (up3 m1 49 0 0 r))
  refine x_aload_n (pc := 0) dL_pack_0 3 rfl ?_
  refine x_iconst (pc := 1) dL_pack_1 ?_
  refine x_aload_n (pc := 2) dL_pack_2 0 rfl ?_
  refine x_iload_n (pc := 3) dL_pack_3 1 rfl ?_
  refine x_iload_n (pc := 4) dL_pack_4 2 rfl ?_
  refine x_callV (pc := 5) _ dL_pack_5 (hc) lkL_15 rfl rfl rfl rfl (mem_dom0 (by decide) (by decide)) (by decide) (Nat.le_of_ble_eq_true rfl) rfl ?_
  refine x_i2l (pc := 8) dL_pack_8 hr ?_
  refine y_last (pc := 9) dL_pack_9 rfl (by decide) (by omega) ?_
  refine x_goto (pc := 10) 21 dL_pack_10 (by decide) ?_
  refine x_iconst (pc := 21) dL_pack_21 ?_
  exact y_iret (pc := 22) dL_pack_22 rfl rfl rfl

theorem hq_pack_ioE {G : GG} {m m1 : Mem} {a0 a1 : Int} (hc : Ct G MX7_pack (rmE 1) [rf G 38 0, .int (iI a0), .int (iI a1)] (hp m) (.inr ioE) (hp m1)) : CtW G ML_pack ML_pack_h (rmE 2) [rf G 38 0, .int (iI a0), .int (iI a1), rf G 49 0] (hp (m)) (.inl (some (.int (iI (1))))) (hp (m1)) := by
  refine x_entryW (by decide +kernel) mwL_pack rfl (Nat.le_of_ble_eq_true rfl) ?_
  show X G ML_pack (rmE 2) 0 [(0, rf G 38 0), (1, .int (iI a0)), (2, .int (iI a1)), (3, rf G 49 0)] [] (hp (m)) 0 0 (.inl (some (.int (iI (1))))) (hp (m1))
  refine x_aload_n (pc := 0) dL_pack_0 3 rfl ?_
  refine x_iconst (pc := 1) dL_pack_1 ?_
  refine x_aload_n (pc := 2) dL_pack_2 0 rfl ?_
  refine x_iload_n (pc := 3) dL_pack_3 1 rfl ?_
  refine x_iload_n (pc := 4) dL_pack_4 2 rfl ?_
  refine x_callVC (pc := 5) _ dL_pack_5 (hc) lkL_15 rfl rfl rfl rfl (mem_dom0 (by decide) (by decide)) (by decide) (Nat.le_of_ble_eq_true rfl) rfl [] _ _ rfl (fun z hz => nomatch hz) (by decide) (by decide) clIO (by decide) (fun q => ?_)
  refine x_astore (pc := 13) (lv' := [(4, _), (0, _), (1, _), (2, _), (3, _)]) dL_pack_13 (by decide) rfl ?_
  refine x_iconst (pc := 15) dL_pack_15 ?_
  exact y_iret (pc := 16) dL_pack_16 rfl rfl rfl

theorem hq_pack_iaE {G : GG} {m m1 : Mem} {a0 a1 : Int} (hc : Ct G MX7_pack (rmE 1) [rf G 38 0, .int (iI a0), .int (iI a1)] (hp m) (.inr iaE) (hp m1)) : CtW G ML_pack ML_pack_h (rmE 2) [rf G 38 0, .int (iI a0), .int (iI a1), rf G 49 0] (hp (m)) (.inl (some (.int (iI (2))))) (hp (m1)) := by
  refine x_entryW (by decide +kernel) mwL_pack rfl (Nat.le_of_ble_eq_true rfl) ?_
  show X G ML_pack (rmE 2) 0 [(0, rf G 38 0), (1, .int (iI a0)), (2, .int (iI a1)), (3, rf G 49 0)] [] (hp (m)) 0 0 (.inl (some (.int (iI (2))))) (hp (m1))
  refine x_aload_n (pc := 0) dL_pack_0 3 rfl ?_
  refine x_iconst (pc := 1) dL_pack_1 ?_
  refine x_aload_n (pc := 2) dL_pack_2 0 rfl ?_
  refine x_iload_n (pc := 3) dL_pack_3 1 rfl ?_
  refine x_iload_n (pc := 4) dL_pack_4 2 rfl ?_
  refine x_callVC (pc := 5) _ dL_pack_5 (hc) lkL_15 rfl rfl rfl rfl (mem_dom0 (by decide) (by decide)) (by decide) (Nat.le_of_ble_eq_true rfl) rfl [_] _ _ rfl (fun z hz => by cases List.mem_singleton.mp hz; exact ⟨by decide, clIO, rfl⟩) (by decide) (by decide) clIA (by decide) (fun q => ?_)
  refine x_astore (pc := 17) (lv' := [(4, _), (0, _), (1, _), (2, _), (3, _)]) dL_pack_17 (by decide) rfl ?_
  refine x_iconst (pc := 19) dL_pack_19 ?_
  exact y_iret (pc := 20) dL_pack_20 rfl rfl rfl

theorem hq_cable {G : GG} {m m1 : Mem} {a0 a1 a2 : Int} {r : Int} (hr : inI r) (hc : Ct G MX7_cable (rmD 9) [rf G 38 0, .int (iI a0), .int (iI a1), .int (iI a2)] (hp m) (.inl (some (.int (iI (r))))) (hp m1)) : CtW G ML_cable ML_cable_h (rmD 10) [rf G 38 0, .int (iI a0), .int (iI a1), .int (iI a2), rf G 49 0] (hp (m)) (.inl (some (.int (iI (0))))) (hp (up3 m1 49 0 0 r)) := by
  refine x_entryW (by decide +kernel) mwL_cable rfl (Nat.le_of_ble_eq_true rfl) ?_
  show X G ML_cable (rmD 10) 0 [(0, rf G 38 0), (1, .int (iI a0)), (2, .int (iI a1)), (3, .int (iI a2)), (4, rf G 49 0)] [] (hp (m)) 0 0 (.inl (some (.int (iI (0))))) (hp (up3 m1 49 0 0 r))
  refine x_aload (pc := 0) dL_cable_0 4 rfl ?_
  refine x_iconst (pc := 2) dL_cable_2 ?_
  refine x_aload_n (pc := 3) dL_cable_3 0 rfl ?_
  refine x_iload_n (pc := 4) dL_cable_4 1 rfl ?_
  refine x_iload_n (pc := 5) dL_cable_5 2 rfl ?_
  refine x_iload_n (pc := 6) dL_cable_6 3 rfl ?_
  refine x_callV (pc := 7) _ dL_cable_7 (hc) lkL_21 rfl rfl rfl rfl (mem_dom0 (by decide) (by decide)) (by decide) (Nat.le_of_ble_eq_true rfl) rfl ?_
  refine x_i2l (pc := 10) dL_cable_10 hr ?_
  refine y_last (pc := 11) dL_cable_11 rfl (by decide) (by omega) ?_
  refine x_goto (pc := 12) 23 dL_cable_12 (by decide) ?_
  refine x_iconst (pc := 23) dL_cable_23 ?_
  exact y_iret (pc := 24) dL_cable_24 rfl rfl rfl

theorem hq_cable_ioE {G : GG} {m m1 : Mem} {a0 a1 a2 : Int} (hc : Ct G MX7_cable (rmE 1) [rf G 38 0, .int (iI a0), .int (iI a1), .int (iI a2)] (hp m) (.inr ioE) (hp m1)) : CtW G ML_cable ML_cable_h (rmE 2) [rf G 38 0, .int (iI a0), .int (iI a1), .int (iI a2), rf G 49 0] (hp (m)) (.inl (some (.int (iI (1))))) (hp (m1)) := by
  refine x_entryW (by decide +kernel) mwL_cable rfl (Nat.le_of_ble_eq_true rfl) ?_
  show X G ML_cable (rmE 2) 0 [(0, rf G 38 0), (1, .int (iI a0)), (2, .int (iI a1)), (3, .int (iI a2)), (4, rf G 49 0)] [] (hp (m)) 0 0 (.inl (some (.int (iI (1))))) (hp (m1))
  refine x_aload (pc := 0) dL_cable_0 4 rfl ?_
  refine x_iconst (pc := 2) dL_cable_2 ?_
  refine x_aload_n (pc := 3) dL_cable_3 0 rfl ?_
  refine x_iload_n (pc := 4) dL_cable_4 1 rfl ?_
  refine x_iload_n (pc := 5) dL_cable_5 2 rfl ?_
  refine x_iload_n (pc := 6) dL_cable_6 3 rfl ?_
  refine x_callVC (pc := 7) _ dL_cable_7 (hc) lkL_21 rfl rfl rfl rfl (mem_dom0 (by decide) (by decide)) (by decide) (Nat.le_of_ble_eq_true rfl) rfl [] _ _ rfl (fun z hz => nomatch hz) (by decide) (by decide) clIO (by decide) (fun q => ?_)
  refine x_astore (pc := 15) (lv' := [(5, _), (0, _), (1, _), (2, _), (3, _), (4, _)]) dL_cable_15 (by decide) rfl ?_
  refine x_iconst (pc := 17) dL_cable_17 ?_
  exact y_iret (pc := 18) dL_cable_18 rfl rfl rfl

theorem hq_cable_iaE {G : GG} {m m1 : Mem} {a0 a1 a2 : Int} (hc : Ct G MX7_cable (rmE 1) [rf G 38 0, .int (iI a0), .int (iI a1), .int (iI a2)] (hp m) (.inr iaE) (hp m1)) : CtW G ML_cable ML_cable_h (rmE 2) [rf G 38 0, .int (iI a0), .int (iI a1), .int (iI a2), rf G 49 0] (hp (m)) (.inl (some (.int (iI (2))))) (hp (m1)) := by
  refine x_entryW (by decide +kernel) mwL_cable rfl (Nat.le_of_ble_eq_true rfl) ?_
  show X G ML_cable (rmE 2) 0 [(0, rf G 38 0), (1, .int (iI a0)), (2, .int (iI a1)), (3, .int (iI a2)), (4, rf G 49 0)] [] (hp (m)) 0 0 (.inl (some (.int (iI (2))))) (hp (m1))
  refine x_aload (pc := 0) dL_cable_0 4 rfl ?_
  refine x_iconst (pc := 2) dL_cable_2 ?_
  refine x_aload_n (pc := 3) dL_cable_3 0 rfl ?_
  refine x_iload_n (pc := 4) dL_cable_4 1 rfl ?_
  refine x_iload_n (pc := 5) dL_cable_5 2 rfl ?_
  refine x_iload_n (pc := 6) dL_cable_6 3 rfl ?_
  refine x_callVC (pc := 7) _ dL_cable_7 (hc) lkL_21 rfl rfl rfl rfl (mem_dom0 (by decide) (by decide)) (by decide) (Nat.le_of_ble_eq_true rfl) rfl [_] _ _ rfl (fun z hz => by cases List.mem_singleton.mp hz; exact ⟨by decide, clIO, rfl⟩) (by decide) (by decide) clIA (by decide) (fun q => ?_)
  refine x_astore (pc := 19) (lv' := [(5, _), (0, _), (1, _), (2, _), (3, _), (4, _)]) dL_cable_19 (by decide) rfl ?_
  refine x_iconst (pc := 21) dL_cable_21 ?_
  exact y_iret (pc := 22) dL_cable_22 rfl rfl rfl

theorem hq_gainAt {G : GG} {m m1 : Mem} {a0 a1 : Int} {r : Int} (hr : inI r) (hc : Ct G MX7_gainAt (rmD 9) [rf G 38 0, .int (iI a0), .int (iI a1)] (hp m) (.inl (some (.int (iI (r))))) (hp m1)) : CtW G ML_gainAt ML_gainAt_h (rmD 10) [rf G 38 0, .int (iI a0), .int (iI a1), rf G 49 0] (hp (m)) (.inl (some (.int (iI (0))))) (hp (up3 m1 49 0 0 r)) := by
  refine x_entryW (by decide +kernel) mwL_gainAt rfl (Nat.le_of_ble_eq_true rfl) ?_
  show X G ML_gainAt (rmD 10) 0 [(0, rf G 38 0), (1, .int (iI a0)), (2, .int (iI a1)), (3, rf G 49 0)] [] (hp (m)) 0 0 (.inl (some (.int (iI (0))))) (hp (up3 m1 49 0 0 r))
  refine x_aload_n (pc := 0) dL_gainAt_0 3 rfl ?_
  refine x_iconst (pc := 1) dL_gainAt_1 ?_
  refine x_aload_n (pc := 2) dL_gainAt_2 0 rfl ?_
  refine x_iload_n (pc := 3) dL_gainAt_3 1 rfl ?_
  refine x_iload_n (pc := 4) dL_gainAt_4 2 rfl ?_
  refine x_callV (pc := 5) _ dL_gainAt_5 (hc) lkL_25 rfl rfl rfl rfl (mem_dom0 (by decide) (by decide)) (by decide) (Nat.le_of_ble_eq_true rfl) rfl ?_
  refine x_i2l (pc := 8) dL_gainAt_8 hr ?_
  refine y_last (pc := 9) dL_gainAt_9 rfl (by decide) (by omega) ?_
  refine x_goto (pc := 10) 21 dL_gainAt_10 (by decide) ?_
  refine x_iconst (pc := 21) dL_gainAt_21 ?_
  exact y_iret (pc := 22) dL_gainAt_22 rfl rfl rfl

theorem hq_gainAt_ioE {G : GG} {m m1 : Mem} {a0 a1 : Int} (hc : Ct G MX7_gainAt (rmE 1) [rf G 38 0, .int (iI a0), .int (iI a1)] (hp m) (.inr ioE) (hp m1)) : CtW G ML_gainAt ML_gainAt_h (rmE 2) [rf G 38 0, .int (iI a0), .int (iI a1), rf G 49 0] (hp (m)) (.inl (some (.int (iI (1))))) (hp (m1)) := by
  refine x_entryW (by decide +kernel) mwL_gainAt rfl (Nat.le_of_ble_eq_true rfl) ?_
  show X G ML_gainAt (rmE 2) 0 [(0, rf G 38 0), (1, .int (iI a0)), (2, .int (iI a1)), (3, rf G 49 0)] [] (hp (m)) 0 0 (.inl (some (.int (iI (1))))) (hp (m1))
  refine x_aload_n (pc := 0) dL_gainAt_0 3 rfl ?_
  refine x_iconst (pc := 1) dL_gainAt_1 ?_
  refine x_aload_n (pc := 2) dL_gainAt_2 0 rfl ?_
  refine x_iload_n (pc := 3) dL_gainAt_3 1 rfl ?_
  refine x_iload_n (pc := 4) dL_gainAt_4 2 rfl ?_
  refine x_callVC (pc := 5) _ dL_gainAt_5 (hc) lkL_25 rfl rfl rfl rfl (mem_dom0 (by decide) (by decide)) (by decide) (Nat.le_of_ble_eq_true rfl) rfl [] _ _ rfl (fun z hz => nomatch hz) (by decide) (by decide) clIO (by decide) (fun q => ?_)
  refine x_astore (pc := 13) (lv' := [(4, _), (0, _), (1, _), (2, _), (3, _)]) dL_gainAt_13 (by decide) rfl ?_
  refine x_iconst (pc := 15) dL_gainAt_15 ?_
  exact y_iret (pc := 16) dL_gainAt_16 rfl rfl rfl

theorem hq_gainAt_iaE {G : GG} {m m1 : Mem} {a0 a1 : Int} (hc : Ct G MX7_gainAt (rmE 1) [rf G 38 0, .int (iI a0), .int (iI a1)] (hp m) (.inr iaE) (hp m1)) : CtW G ML_gainAt ML_gainAt_h (rmE 2) [rf G 38 0, .int (iI a0), .int (iI a1), rf G 49 0] (hp (m)) (.inl (some (.int (iI (2))))) (hp (m1)) := by
  refine x_entryW (by decide +kernel) mwL_gainAt rfl (Nat.le_of_ble_eq_true rfl) ?_
  show X G ML_gainAt (rmE 2) 0 [(0, rf G 38 0), (1, .int (iI a0)), (2, .int (iI a1)), (3, rf G 49 0)] [] (hp (m)) 0 0 (.inl (some (.int (iI (2))))) (hp (m1))
  refine x_aload_n (pc := 0) dL_gainAt_0 3 rfl ?_
  refine x_iconst (pc := 1) dL_gainAt_1 ?_
  refine x_aload_n (pc := 2) dL_gainAt_2 0 rfl ?_
  refine x_iload_n (pc := 3) dL_gainAt_3 1 rfl ?_
  refine x_iload_n (pc := 4) dL_gainAt_4 2 rfl ?_
  refine x_callVC (pc := 5) _ dL_gainAt_5 (hc) lkL_25 rfl rfl rfl rfl (mem_dom0 (by decide) (by decide)) (by decide) (Nat.le_of_ble_eq_true rfl) rfl [_] _ _ rfl (fun z hz => by cases List.mem_singleton.mp hz; exact ⟨by decide, clIO, rfl⟩) (by decide) (by decide) clIA (by decide) (fun q => ?_)
  refine x_astore (pc := 17) (lv' := [(4, _), (0, _), (1, _), (2, _), (3, _)]) dL_gainAt_17 (by decide) rfl ?_
  refine x_iconst (pc := 19) dL_gainAt_19 ?_
  exact y_iret (pc := 20) dL_gainAt_20 rfl rfl rfl

theorem hq_trip {G : GG} {m m1 : Mem} {a0 a1 : Int} {r : Int} (hr : inI r) (hc : Ct G MX7_trip (rmD 9) [rf G 38 0, .int (iI a0), .int (iI a1)] (hp m) (.inl (some (.int (iI (r))))) (hp m1)) : CtW G ML_trip ML_trip_h (rmD 10) [rf G 38 0, .int (iI a0), .int (iI a1), rf G 49 0] (hp (m)) (.inl (some (.int (iI (0))))) (hp (up3 m1 49 0 0 r)) := by
  refine x_entryW (by decide +kernel) mwL_trip rfl (Nat.le_of_ble_eq_true rfl) ?_
  show X G ML_trip (rmD 10) 0 [(0, rf G 38 0), (1, .int (iI a0)), (2, .int (iI a1)), (3, rf G 49 0)] [] (hp (m)) 0 0 (.inl (some (.int (iI (0))))) (hp (up3 m1 49 0 0 r))
  refine x_aload_n (pc := 0) dL_trip_0 3 rfl ?_
  refine x_iconst (pc := 1) dL_trip_1 ?_
  refine x_aload_n (pc := 2) dL_trip_2 0 rfl ?_
  refine x_iload_n (pc := 3) dL_trip_3 1 rfl ?_
  refine x_iload_n (pc := 4) dL_trip_4 2 rfl ?_
  refine x_callV (pc := 5) _ dL_trip_5 (hc) lkL_28 rfl rfl rfl rfl (mem_dom0 (by decide) (by decide)) (by decide) (Nat.le_of_ble_eq_true rfl) rfl ?_
  refine x_i2l (pc := 8) dL_trip_8 hr ?_
  refine y_last (pc := 9) dL_trip_9 rfl (by decide) (by omega) ?_
  refine x_goto (pc := 10) 21 dL_trip_10 (by decide) ?_
  refine x_iconst (pc := 21) dL_trip_21 ?_
  exact y_iret (pc := 22) dL_trip_22 rfl rfl rfl

theorem hq_trip_ioE {G : GG} {m m1 : Mem} {a0 a1 : Int} (hc : Ct G MX7_trip (rmE 1) [rf G 38 0, .int (iI a0), .int (iI a1)] (hp m) (.inr ioE) (hp m1)) : CtW G ML_trip ML_trip_h (rmE 2) [rf G 38 0, .int (iI a0), .int (iI a1), rf G 49 0] (hp (m)) (.inl (some (.int (iI (1))))) (hp (m1)) := by
  refine x_entryW (by decide +kernel) mwL_trip rfl (Nat.le_of_ble_eq_true rfl) ?_
  show X G ML_trip (rmE 2) 0 [(0, rf G 38 0), (1, .int (iI a0)), (2, .int (iI a1)), (3, rf G 49 0)] [] (hp (m)) 0 0 (.inl (some (.int (iI (1))))) (hp (m1))
  refine x_aload_n (pc := 0) dL_trip_0 3 rfl ?_
  refine x_iconst (pc := 1) dL_trip_1 ?_
  refine x_aload_n (pc := 2) dL_trip_2 0 rfl ?_
  refine x_iload_n (pc := 3) dL_trip_3 1 rfl ?_
  refine x_iload_n (pc := 4) dL_trip_4 2 rfl ?_
  refine x_callVC (pc := 5) _ dL_trip_5 (hc) lkL_28 rfl rfl rfl rfl (mem_dom0 (by decide) (by decide)) (by decide) (Nat.le_of_ble_eq_true rfl) rfl [] _ _ rfl (fun z hz => nomatch hz) (by decide) (by decide) clIO (by decide) (fun q => ?_)
  refine x_astore (pc := 13) (lv' := [(4, _), (0, _), (1, _), (2, _), (3, _)]) dL_trip_13 (by decide) rfl ?_
  refine x_iconst (pc := 15) dL_trip_15 ?_
  exact y_iret (pc := 16) dL_trip_16 rfl rfl rfl

theorem hq_trip_iaE {G : GG} {m m1 : Mem} {a0 a1 : Int} (hc : Ct G MX7_trip (rmE 1) [rf G 38 0, .int (iI a0), .int (iI a1)] (hp m) (.inr iaE) (hp m1)) : CtW G ML_trip ML_trip_h (rmE 2) [rf G 38 0, .int (iI a0), .int (iI a1), rf G 49 0] (hp (m)) (.inl (some (.int (iI (2))))) (hp (m1)) := by
  refine x_entryW (by decide +kernel) mwL_trip rfl (Nat.le_of_ble_eq_true rfl) ?_
  show X G ML_trip (rmE 2) 0 [(0, rf G 38 0), (1, .int (iI a0)), (2, .int (iI a1)), (3, rf G 49 0)] [] (hp (m)) 0 0 (.inl (some (.int (iI (2))))) (hp (m1))
  refine x_aload_n (pc := 0) dL_trip_0 3 rfl ?_
  refine x_iconst (pc := 1) dL_trip_1 ?_
  refine x_aload_n (pc := 2) dL_trip_2 0 rfl ?_
  refine x_iload_n (pc := 3) dL_trip_3 1 rfl ?_
  refine x_iload_n (pc := 4) dL_trip_4 2 rfl ?_
  refine x_callVC (pc := 5) _ dL_trip_5 (hc) lkL_28 rfl rfl rfl rfl (mem_dom0 (by decide) (by decide)) (by decide) (Nat.le_of_ble_eq_true rfl) rfl [_] _ _ rfl (fun z hz => by cases List.mem_singleton.mp hz; exact ⟨by decide, clIO, rfl⟩) (by decide) (by decide) clIA (by decide) (fun q => ?_)
  refine x_astore (pc := 17) (lv' := [(4, _), (0, _), (1, _), (2, _), (3, _)]) dL_trip_17 (by decide) rfl ?_
  refine x_iconst (pc := 19) dL_trip_19 ?_
  exact y_iret (pc := 20) dL_trip_20 rfl rfl rfl

theorem hq_contract {G : GG} {m m1 : Mem} {a0 a1 : Int} {r : Int} (hr : inI r) (hc : Ct G MX7_contract (rmD 9) [rf G 38 0, .int (iI a0), .int (iI a1)] (hp m) (.inl (some (.int (iI (r))))) (hp m1)) : CtW G ML_contract ML_contract_h (rmD 10) [rf G 38 0, .int (iI a0), .int (iI a1), rf G 49 0] (hp (m)) (.inl (some (.int (iI (0))))) (hp (up3 m1 49 0 0 r)) := by
  refine x_entryW (by decide +kernel) mwL_contract rfl (Nat.le_of_ble_eq_true rfl) ?_
  show X G ML_contract (rmD 10) 0 [(0, rf G 38 0), (1, .int (iI a0)), (2, .int (iI a1)), (3, rf G 49 0)] [] (hp (m)) 0 0 (.inl (some (.int (iI (0))))) (hp (up3 m1 49 0 0 r))
  refine x_aload_n (pc := 0) dL_contract_0 3 rfl ?_
  refine x_iconst (pc := 1) dL_contract_1 ?_
  refine x_aload_n (pc := 2) dL_contract_2 0 rfl ?_
  refine x_iload_n (pc := 3) dL_contract_3 1 rfl ?_
  refine x_iload_n (pc := 4) dL_contract_4 2 rfl ?_
  refine x_callV (pc := 5) _ dL_contract_5 (hc) lkL_31 rfl rfl rfl rfl (mem_dom0 (by decide) (by decide)) (by decide) (Nat.le_of_ble_eq_true rfl) rfl ?_
  refine x_i2l (pc := 8) dL_contract_8 hr ?_
  refine y_last (pc := 9) dL_contract_9 rfl (by decide) (by omega) ?_
  refine x_goto (pc := 10) 21 dL_contract_10 (by decide) ?_
  refine x_iconst (pc := 21) dL_contract_21 ?_
  exact y_iret (pc := 22) dL_contract_22 rfl rfl rfl

theorem hq_contract_ioE {G : GG} {m m1 : Mem} {a0 a1 : Int} (hc : Ct G MX7_contract (rmE 1) [rf G 38 0, .int (iI a0), .int (iI a1)] (hp m) (.inr ioE) (hp m1)) : CtW G ML_contract ML_contract_h (rmE 2) [rf G 38 0, .int (iI a0), .int (iI a1), rf G 49 0] (hp (m)) (.inl (some (.int (iI (1))))) (hp (m1)) := by
  refine x_entryW (by decide +kernel) mwL_contract rfl (Nat.le_of_ble_eq_true rfl) ?_
  show X G ML_contract (rmE 2) 0 [(0, rf G 38 0), (1, .int (iI a0)), (2, .int (iI a1)), (3, rf G 49 0)] [] (hp (m)) 0 0 (.inl (some (.int (iI (1))))) (hp (m1))
  refine x_aload_n (pc := 0) dL_contract_0 3 rfl ?_
  refine x_iconst (pc := 1) dL_contract_1 ?_
  refine x_aload_n (pc := 2) dL_contract_2 0 rfl ?_
  refine x_iload_n (pc := 3) dL_contract_3 1 rfl ?_
  refine x_iload_n (pc := 4) dL_contract_4 2 rfl ?_
  refine x_callVC (pc := 5) _ dL_contract_5 (hc) lkL_31 rfl rfl rfl rfl (mem_dom0 (by decide) (by decide)) (by decide) (Nat.le_of_ble_eq_true rfl) rfl [] _ _ rfl (fun z hz => nomatch hz) (by decide) (by decide) clIO (by decide) (fun q => ?_)
  refine x_astore (pc := 13) (lv' := [(4, _), (0, _), (1, _), (2, _), (3, _)]) dL_contract_13 (by decide) rfl ?_
  refine x_iconst (pc := 15) dL_contract_15 ?_
  exact y_iret (pc := 16) dL_contract_16 rfl rfl rfl

theorem hq_contract_iaE {G : GG} {m m1 : Mem} {a0 a1 : Int} (hc : Ct G MX7_contract (rmE 1) [rf G 38 0, .int (iI a0), .int (iI a1)] (hp m) (.inr iaE) (hp m1)) : CtW G ML_contract ML_contract_h (rmE 2) [rf G 38 0, .int (iI a0), .int (iI a1), rf G 49 0] (hp (m)) (.inl (some (.int (iI (2))))) (hp (m1)) := by
  refine x_entryW (by decide +kernel) mwL_contract rfl (Nat.le_of_ble_eq_true rfl) ?_
  show X G ML_contract (rmE 2) 0 [(0, rf G 38 0), (1, .int (iI a0)), (2, .int (iI a1)), (3, rf G 49 0)] [] (hp (m)) 0 0 (.inl (some (.int (iI (2))))) (hp (m1))
  refine x_aload_n (pc := 0) dL_contract_0 3 rfl ?_
  refine x_iconst (pc := 1) dL_contract_1 ?_
  refine x_aload_n (pc := 2) dL_contract_2 0 rfl ?_
  refine x_iload_n (pc := 3) dL_contract_3 1 rfl ?_
  refine x_iload_n (pc := 4) dL_contract_4 2 rfl ?_
  refine x_callVC (pc := 5) _ dL_contract_5 (hc) lkL_31 rfl rfl rfl rfl (mem_dom0 (by decide) (by decide)) (by decide) (Nat.le_of_ble_eq_true rfl) rfl [_] _ _ rfl (fun z hz => by cases List.mem_singleton.mp hz; exact ⟨by decide, clIO, rfl⟩) (by decide) (by decide) clIA (by decide) (fun q => ?_)
  refine x_astore (pc := 17) (lv' := [(4, _), (0, _), (1, _), (2, _), (3, _)]) dL_contract_17 (by decide) rfl ?_
  refine x_iconst (pc := 19) dL_contract_19 ?_
  exact y_iret (pc := 20) dL_contract_20 rfl rfl rfl

theorem hq_loan {G : GG} {m m1 : Mem} {a0 a1 : Int} {r : Int} (hr : inI r) (hc : Ct G MX7_loan (rmD 9) [rf G 38 0, .int (iI a0), .int (iI a1)] (hp m) (.inl (some (.int (iI (r))))) (hp m1)) : CtW G ML_loan ML_loan_h (rmD 10) [rf G 38 0, .int (iI a0), .int (iI a1), rf G 49 0] (hp (m)) (.inl (some (.int (iI (0))))) (hp (up3 m1 49 0 0 r)) := by
  refine x_entryW (by decide +kernel) mwL_loan rfl (Nat.le_of_ble_eq_true rfl) ?_
  show X G ML_loan (rmD 10) 0 [(0, rf G 38 0), (1, .int (iI a0)), (2, .int (iI a1)), (3, rf G 49 0)] [] (hp (m)) 0 0 (.inl (some (.int (iI (0))))) (hp (up3 m1 49 0 0 r))
  refine x_aload_n (pc := 0) dL_loan_0 3 rfl ?_
  refine x_iconst (pc := 1) dL_loan_1 ?_
  refine x_aload_n (pc := 2) dL_loan_2 0 rfl ?_
  refine x_iload_n (pc := 3) dL_loan_3 1 rfl ?_
  refine x_iload_n (pc := 4) dL_loan_4 2 rfl ?_
  refine x_callV (pc := 5) _ dL_loan_5 (hc) lkL_34 rfl rfl rfl rfl (mem_dom0 (by decide) (by decide)) (by decide) (Nat.le_of_ble_eq_true rfl) rfl ?_
  refine x_i2l (pc := 8) dL_loan_8 hr ?_
  refine y_last (pc := 9) dL_loan_9 rfl (by decide) (by omega) ?_
  refine x_goto (pc := 10) 21 dL_loan_10 (by decide) ?_
  refine x_iconst (pc := 21) dL_loan_21 ?_
  exact y_iret (pc := 22) dL_loan_22 rfl rfl rfl

theorem hq_loan_ioE {G : GG} {m m1 : Mem} {a0 a1 : Int} (hc : Ct G MX7_loan (rmE 1) [rf G 38 0, .int (iI a0), .int (iI a1)] (hp m) (.inr ioE) (hp m1)) : CtW G ML_loan ML_loan_h (rmE 2) [rf G 38 0, .int (iI a0), .int (iI a1), rf G 49 0] (hp (m)) (.inl (some (.int (iI (1))))) (hp (m1)) := by
  refine x_entryW (by decide +kernel) mwL_loan rfl (Nat.le_of_ble_eq_true rfl) ?_
  show X G ML_loan (rmE 2) 0 [(0, rf G 38 0), (1, .int (iI a0)), (2, .int (iI a1)), (3, rf G 49 0)] [] (hp (m)) 0 0 (.inl (some (.int (iI (1))))) (hp (m1))
  refine x_aload_n (pc := 0) dL_loan_0 3 rfl ?_
  refine x_iconst (pc := 1) dL_loan_1 ?_
  refine x_aload_n (pc := 2) dL_loan_2 0 rfl ?_
  refine x_iload_n (pc := 3) dL_loan_3 1 rfl ?_
  refine x_iload_n (pc := 4) dL_loan_4 2 rfl ?_
  refine x_callVC (pc := 5) _ dL_loan_5 (hc) lkL_34 rfl rfl rfl rfl (mem_dom0 (by decide) (by decide)) (by decide) (Nat.le_of_ble_eq_true rfl) rfl [] _ _ rfl (fun z hz => nomatch hz) (by decide) (by decide) clIO (by decide) (fun q => ?_)
  refine x_astore (pc := 13) (lv' := [(4, _), (0, _), (1, _), (2, _), (3, _)]) dL_loan_13 (by decide) rfl ?_
  refine x_iconst (pc := 15) dL_loan_15 ?_
  exact y_iret (pc := 16) dL_loan_16 rfl rfl rfl

theorem hq_loan_iaE {G : GG} {m m1 : Mem} {a0 a1 : Int} (hc : Ct G MX7_loan (rmE 1) [rf G 38 0, .int (iI a0), .int (iI a1)] (hp m) (.inr iaE) (hp m1)) : CtW G ML_loan ML_loan_h (rmE 2) [rf G 38 0, .int (iI a0), .int (iI a1), rf G 49 0] (hp (m)) (.inl (some (.int (iI (2))))) (hp (m1)) := by
  refine x_entryW (by decide +kernel) mwL_loan rfl (Nat.le_of_ble_eq_true rfl) ?_
  show X G ML_loan (rmE 2) 0 [(0, rf G 38 0), (1, .int (iI a0)), (2, .int (iI a1)), (3, rf G 49 0)] [] (hp (m)) 0 0 (.inl (some (.int (iI (2))))) (hp (m1))
  refine x_aload_n (pc := 0) dL_loan_0 3 rfl ?_
  refine x_iconst (pc := 1) dL_loan_1 ?_
  refine x_aload_n (pc := 2) dL_loan_2 0 rfl ?_
  refine x_iload_n (pc := 3) dL_loan_3 1 rfl ?_
  refine x_iload_n (pc := 4) dL_loan_4 2 rfl ?_
  refine x_callVC (pc := 5) _ dL_loan_5 (hc) lkL_34 rfl rfl rfl rfl (mem_dom0 (by decide) (by decide)) (by decide) (Nat.le_of_ble_eq_true rfl) rfl [_] _ _ rfl (fun z hz => by cases List.mem_singleton.mp hz; exact ⟨by decide, clIO, rfl⟩) (by decide) (by decide) clIA (by decide) (fun q => ?_)
  refine x_astore (pc := 17) (lv' := [(4, _), (0, _), (1, _), (2, _), (3, _)]) dL_loan_17 (by decide) rfl ?_
  refine x_iconst (pc := 19) dL_loan_19 ?_
  exact y_iret (pc := 20) dL_loan_20 rfl rfl rfl

theorem hq_total {G : GG} {m m1 : Mem} {a0 : Int} {r : Int} (hc : Ct G MX7_total (rmD 9) [rf G 38 0, .int (iI a0)] (hp m) (.inl (some (.long (lI (r))))) (hp m1)) : CtW G ML_total ML_total_h (rmD 10) [rf G 38 0, .int (iI a0), rf G 49 0] (hp (m)) (.inl (some (.int (iI (0))))) (hp (up3 m1 49 0 0 r)) := by
  refine x_entryW (by decide +kernel) mwL_total rfl (Nat.le_of_ble_eq_true rfl) ?_
  show X G ML_total (rmD 10) 0 [(0, rf G 38 0), (1, .int (iI a0)), (2, rf G 49 0)] [] (hp (m)) 0 0 (.inl (some (.int (iI (0))))) (hp (up3 m1 49 0 0 r))
  refine x_aload_n (pc := 0) dL_total_0 2 rfl ?_
  refine x_iconst (pc := 1) dL_total_1 ?_
  refine x_aload_n (pc := 2) dL_total_2 0 rfl ?_
  refine x_iload_n (pc := 3) dL_total_3 1 rfl ?_
  refine x_callV (pc := 4) _ dL_total_4 (hc) lkL_37 rfl rfl rfl rfl (mem_dom0 (by decide) (by decide)) (by decide) (Nat.le_of_ble_eq_true rfl) rfl ?_
  refine y_last (pc := 7) dL_total_7 rfl (by decide) (by omega) ?_
  refine x_goto (pc := 8) 14 dL_total_8 (by decide) ?_
  refine x_iconst (pc := 14) dL_total_14 ?_
  exact y_iret (pc := 15) dL_total_15 rfl rfl rfl

theorem hq_total_iaE {G : GG} {m m1 : Mem} {a0 : Int} (hc : Ct G MX7_total (rmE 1) [rf G 38 0, .int (iI a0)] (hp m) (.inr iaE) (hp m1)) : CtW G ML_total ML_total_h (rmE 2) [rf G 38 0, .int (iI a0), rf G 49 0] (hp (m)) (.inl (some (.int (iI (1))))) (hp (m1)) := by
  refine x_entryW (by decide +kernel) mwL_total rfl (Nat.le_of_ble_eq_true rfl) ?_
  show X G ML_total (rmE 2) 0 [(0, rf G 38 0), (1, .int (iI a0)), (2, rf G 49 0)] [] (hp (m)) 0 0 (.inl (some (.int (iI (1))))) (hp (m1))
  refine x_aload_n (pc := 0) dL_total_0 2 rfl ?_
  refine x_iconst (pc := 1) dL_total_1 ?_
  refine x_aload_n (pc := 2) dL_total_2 0 rfl ?_
  refine x_iload_n (pc := 3) dL_total_3 1 rfl ?_
  refine x_callVC (pc := 4) _ dL_total_4 (hc) lkL_37 rfl rfl rfl rfl (mem_dom0 (by decide) (by decide)) (by decide) (Nat.le_of_ble_eq_true rfl) rfl [] _ _ rfl (fun z hz => nomatch hz) (by decide) (by decide) clIA (by decide) (fun q => ?_)
  refine x_astore_n (pc := 11) (lv' := [(3, _), (0, _), (1, _), (2, _)]) dL_total_11 rfl (by decide) rfl ?_
  refine x_iconst (pc := 12) dL_total_12 ?_
  exact y_iret (pc := 13) dL_total_13 rfl rfl rfl

theorem hq_interest {G : GG} {m m1 : Mem} {a0 a1 : Int} {r : Int} (hr : inI r) (hc : Ct G MX7_interest (rmD 9) [rf G 38 0, .int (iI a0), .int (iI a1)] (hp m) (.inl (some (.int (iI (r))))) (hp m1)) : CtW G ML_interest ML_interest_h (rmD 10) [rf G 38 0, .int (iI a0), .int (iI a1), rf G 49 0] (hp (m)) (.inl (some (.int (iI (0))))) (hp (up3 m1 49 0 0 r)) := by
  refine x_entryW (by decide +kernel) mwL_interest rfl (Nat.le_of_ble_eq_true rfl) ?_
  show X G ML_interest (rmD 10) 0 [(0, rf G 38 0), (1, .int (iI a0)), (2, .int (iI a1)), (3, rf G 49 0)] [] (hp (m)) 0 0 (.inl (some (.int (iI (0))))) (hp (up3 m1 49 0 0 r))
  refine x_aload_n (pc := 0) dL_interest_0 3 rfl ?_
  refine x_iconst (pc := 1) dL_interest_1 ?_
  refine x_aload_n (pc := 2) dL_interest_2 0 rfl ?_
  refine x_iload_n (pc := 3) dL_interest_3 1 rfl ?_
  refine x_iload_n (pc := 4) dL_interest_4 2 rfl ?_
  refine x_callV (pc := 5) _ dL_interest_5 (hc) lkL_45 rfl rfl rfl rfl (mem_dom0 (by decide) (by decide)) (by decide) (Nat.le_of_ble_eq_true rfl) rfl ?_
  refine x_i2l (pc := 8) dL_interest_8 hr ?_
  refine y_last (pc := 9) dL_interest_9 rfl (by decide) (by omega) ?_
  refine x_goto (pc := 10) 21 dL_interest_10 (by decide) ?_
  refine x_iconst (pc := 21) dL_interest_21 ?_
  exact y_iret (pc := 22) dL_interest_22 rfl rfl rfl

theorem hq_interest_ioE {G : GG} {m m1 : Mem} {a0 a1 : Int} (hc : Ct G MX7_interest (rmE 1) [rf G 38 0, .int (iI a0), .int (iI a1)] (hp m) (.inr ioE) (hp m1)) : CtW G ML_interest ML_interest_h (rmE 2) [rf G 38 0, .int (iI a0), .int (iI a1), rf G 49 0] (hp (m)) (.inl (some (.int (iI (1))))) (hp (m1)) := by
  refine x_entryW (by decide +kernel) mwL_interest rfl (Nat.le_of_ble_eq_true rfl) ?_
  show X G ML_interest (rmE 2) 0 [(0, rf G 38 0), (1, .int (iI a0)), (2, .int (iI a1)), (3, rf G 49 0)] [] (hp (m)) 0 0 (.inl (some (.int (iI (1))))) (hp (m1))
  refine x_aload_n (pc := 0) dL_interest_0 3 rfl ?_
  refine x_iconst (pc := 1) dL_interest_1 ?_
  refine x_aload_n (pc := 2) dL_interest_2 0 rfl ?_
  refine x_iload_n (pc := 3) dL_interest_3 1 rfl ?_
  refine x_iload_n (pc := 4) dL_interest_4 2 rfl ?_
  refine x_callVC (pc := 5) _ dL_interest_5 (hc) lkL_45 rfl rfl rfl rfl (mem_dom0 (by decide) (by decide)) (by decide) (Nat.le_of_ble_eq_true rfl) rfl [] _ _ rfl (fun z hz => nomatch hz) (by decide) (by decide) clIO (by decide) (fun q => ?_)
  refine x_astore (pc := 13) (lv' := [(4, _), (0, _), (1, _), (2, _), (3, _)]) dL_interest_13 (by decide) rfl ?_
  refine x_iconst (pc := 15) dL_interest_15 ?_
  exact y_iret (pc := 16) dL_interest_16 rfl rfl rfl

theorem hq_interest_iaE {G : GG} {m m1 : Mem} {a0 a1 : Int} (hc : Ct G MX7_interest (rmE 1) [rf G 38 0, .int (iI a0), .int (iI a1)] (hp m) (.inr iaE) (hp m1)) : CtW G ML_interest ML_interest_h (rmE 2) [rf G 38 0, .int (iI a0), .int (iI a1), rf G 49 0] (hp (m)) (.inl (some (.int (iI (2))))) (hp (m1)) := by
  refine x_entryW (by decide +kernel) mwL_interest rfl (Nat.le_of_ble_eq_true rfl) ?_
  show X G ML_interest (rmE 2) 0 [(0, rf G 38 0), (1, .int (iI a0)), (2, .int (iI a1)), (3, rf G 49 0)] [] (hp (m)) 0 0 (.inl (some (.int (iI (2))))) (hp (m1))
  refine x_aload_n (pc := 0) dL_interest_0 3 rfl ?_
  refine x_iconst (pc := 1) dL_interest_1 ?_
  refine x_aload_n (pc := 2) dL_interest_2 0 rfl ?_
  refine x_iload_n (pc := 3) dL_interest_3 1 rfl ?_
  refine x_iload_n (pc := 4) dL_interest_4 2 rfl ?_
  refine x_callVC (pc := 5) _ dL_interest_5 (hc) lkL_45 rfl rfl rfl rfl (mem_dom0 (by decide) (by decide)) (by decide) (Nat.le_of_ble_eq_true rfl) rfl [_] _ _ rfl (fun z hz => by cases List.mem_singleton.mp hz; exact ⟨by decide, clIO, rfl⟩) (by decide) (by decide) clIA (by decide) (fun q => ?_)
  refine x_astore (pc := 17) (lv' := [(4, _), (0, _), (1, _), (2, _), (3, _)]) dL_interest_17 (by decide) rfl ?_
  refine x_iconst (pc := 19) dL_interest_19 ?_
  exact y_iret (pc := 20) dL_interest_20 rfl rfl rfl

theorem hq_hindrance {G : GG} {m m1 : Mem} {a0 a1 : Int} {r : Int} (hr : inI r) (hc : Ct G MX7_hindrance (rmD 9) [rf G 38 0, .int (iI a0), .int (iI a1)] (hp m) (.inl (some (.int (iI (r))))) (hp m1)) : CtW G ML_hindrance ML_hindrance_h (rmD 10) [rf G 38 0, .int (iI a0), .int (iI a1), rf G 49 0] (hp (m)) (.inl (some (.int (iI (0))))) (hp (up3 m1 49 0 0 r)) := by
  refine x_entryW (by decide +kernel) mwL_hindrance rfl (Nat.le_of_ble_eq_true rfl) ?_
  show X G ML_hindrance (rmD 10) 0 [(0, rf G 38 0), (1, .int (iI a0)), (2, .int (iI a1)), (3, rf G 49 0)] [] (hp (m)) 0 0 (.inl (some (.int (iI (0))))) (hp (up3 m1 49 0 0 r))
  refine x_aload_n (pc := 0) dL_hindrance_0 3 rfl ?_
  refine x_iconst (pc := 1) dL_hindrance_1 ?_
  refine x_aload_n (pc := 2) dL_hindrance_2 0 rfl ?_
  refine x_iload_n (pc := 3) dL_hindrance_3 1 rfl ?_
  refine x_iload_n (pc := 4) dL_hindrance_4 2 rfl ?_
  refine x_callV (pc := 5) _ dL_hindrance_5 (hc) lkL_48 rfl rfl rfl rfl (mem_dom0 (by decide) (by decide)) (by decide) (Nat.le_of_ble_eq_true rfl) rfl ?_
  refine x_i2l (pc := 8) dL_hindrance_8 hr ?_
  refine y_last (pc := 9) dL_hindrance_9 rfl (by decide) (by omega) ?_
  refine x_goto (pc := 10) 21 dL_hindrance_10 (by decide) ?_
  refine x_iconst (pc := 21) dL_hindrance_21 ?_
  exact y_iret (pc := 22) dL_hindrance_22 rfl rfl rfl

theorem hq_hindrance_ioE {G : GG} {m m1 : Mem} {a0 a1 : Int} (hc : Ct G MX7_hindrance (rmE 1) [rf G 38 0, .int (iI a0), .int (iI a1)] (hp m) (.inr ioE) (hp m1)) : CtW G ML_hindrance ML_hindrance_h (rmE 2) [rf G 38 0, .int (iI a0), .int (iI a1), rf G 49 0] (hp (m)) (.inl (some (.int (iI (1))))) (hp (m1)) := by
  refine x_entryW (by decide +kernel) mwL_hindrance rfl (Nat.le_of_ble_eq_true rfl) ?_
  show X G ML_hindrance (rmE 2) 0 [(0, rf G 38 0), (1, .int (iI a0)), (2, .int (iI a1)), (3, rf G 49 0)] [] (hp (m)) 0 0 (.inl (some (.int (iI (1))))) (hp (m1))
  refine x_aload_n (pc := 0) dL_hindrance_0 3 rfl ?_
  refine x_iconst (pc := 1) dL_hindrance_1 ?_
  refine x_aload_n (pc := 2) dL_hindrance_2 0 rfl ?_
  refine x_iload_n (pc := 3) dL_hindrance_3 1 rfl ?_
  refine x_iload_n (pc := 4) dL_hindrance_4 2 rfl ?_
  refine x_callVC (pc := 5) _ dL_hindrance_5 (hc) lkL_48 rfl rfl rfl rfl (mem_dom0 (by decide) (by decide)) (by decide) (Nat.le_of_ble_eq_true rfl) rfl [] _ _ rfl (fun z hz => nomatch hz) (by decide) (by decide) clIO (by decide) (fun q => ?_)
  refine x_astore (pc := 13) (lv' := [(4, _), (0, _), (1, _), (2, _), (3, _)]) dL_hindrance_13 (by decide) rfl ?_
  refine x_iconst (pc := 15) dL_hindrance_15 ?_
  exact y_iret (pc := 16) dL_hindrance_16 rfl rfl rfl

theorem hq_hindrance_iaE {G : GG} {m m1 : Mem} {a0 a1 : Int} (hc : Ct G MX7_hindrance (rmE 1) [rf G 38 0, .int (iI a0), .int (iI a1)] (hp m) (.inr iaE) (hp m1)) : CtW G ML_hindrance ML_hindrance_h (rmE 2) [rf G 38 0, .int (iI a0), .int (iI a1), rf G 49 0] (hp (m)) (.inl (some (.int (iI (2))))) (hp (m1)) := by
  refine x_entryW (by decide +kernel) mwL_hindrance rfl (Nat.le_of_ble_eq_true rfl) ?_
  show X G ML_hindrance (rmE 2) 0 [(0, rf G 38 0), (1, .int (iI a0)), (2, .int (iI a1)), (3, rf G 49 0)] [] (hp (m)) 0 0 (.inl (some (.int (iI (2))))) (hp (m1))
  refine x_aload_n (pc := 0) dL_hindrance_0 3 rfl ?_
  refine x_iconst (pc := 1) dL_hindrance_1 ?_
  refine x_aload_n (pc := 2) dL_hindrance_2 0 rfl ?_
  refine x_iload_n (pc := 3) dL_hindrance_3 1 rfl ?_
  refine x_iload_n (pc := 4) dL_hindrance_4 2 rfl ?_
  refine x_callVC (pc := 5) _ dL_hindrance_5 (hc) lkL_48 rfl rfl rfl rfl (mem_dom0 (by decide) (by decide)) (by decide) (Nat.le_of_ble_eq_true rfl) rfl [_] _ _ rfl (fun z hz => by cases List.mem_singleton.mp hz; exact ⟨by decide, clIO, rfl⟩) (by decide) (by decide) clIA (by decide) (fun q => ?_)
  refine x_astore (pc := 17) (lv' := [(4, _), (0, _), (1, _), (2, _), (3, _)]) dL_hindrance_17 (by decide) rfl ?_
  refine x_iconst (pc := 19) dL_hindrance_19 ?_
  exact y_iret (pc := 20) dL_hindrance_20 rfl rfl rfl

theorem hq_cheapest {G : GG} {m m1 : Mem} {a0 a1 : Int} {r : Int} (hr : inI r) (hc : Ct G MX7_cheapest (rmD 9) [rf G 38 0, .int (iI a0), .int (iI a1)] (hp m) (.inl (some (.int (iI (r))))) (hp m1)) : CtW G ML_cheapest ML_cheapest_h (rmD 10) [rf G 38 0, .int (iI a0), .int (iI a1), rf G 49 0] (hp (m)) (.inl (some (.int (iI (0))))) (hp (up3 m1 49 0 0 r)) := by
  refine x_entryW (by decide +kernel) mwL_cheapest rfl (Nat.le_of_ble_eq_true rfl) ?_
  show X G ML_cheapest (rmD 10) 0 [(0, rf G 38 0), (1, .int (iI a0)), (2, .int (iI a1)), (3, rf G 49 0)] [] (hp (m)) 0 0 (.inl (some (.int (iI (0))))) (hp (up3 m1 49 0 0 r))
  refine x_aload_n (pc := 0) dL_cheapest_0 3 rfl ?_
  refine x_iconst (pc := 1) dL_cheapest_1 ?_
  refine x_aload_n (pc := 2) dL_cheapest_2 0 rfl ?_
  refine x_iload_n (pc := 3) dL_cheapest_3 1 rfl ?_
  refine x_iload_n (pc := 4) dL_cheapest_4 2 rfl ?_
  refine x_callV (pc := 5) _ dL_cheapest_5 (hc) lkL_51 rfl rfl rfl rfl (mem_dom0 (by decide) (by decide)) (by decide) (Nat.le_of_ble_eq_true rfl) rfl ?_
  refine x_i2l (pc := 8) dL_cheapest_8 hr ?_
  refine y_last (pc := 9) dL_cheapest_9 rfl (by decide) (by omega) ?_
  refine x_goto (pc := 10) 21 dL_cheapest_10 (by decide) ?_
  refine x_iconst (pc := 21) dL_cheapest_21 ?_
  exact y_iret (pc := 22) dL_cheapest_22 rfl rfl rfl

theorem hq_cheapest_ioE {G : GG} {m m1 : Mem} {a0 a1 : Int} (hc : Ct G MX7_cheapest (rmE 1) [rf G 38 0, .int (iI a0), .int (iI a1)] (hp m) (.inr ioE) (hp m1)) : CtW G ML_cheapest ML_cheapest_h (rmE 2) [rf G 38 0, .int (iI a0), .int (iI a1), rf G 49 0] (hp (m)) (.inl (some (.int (iI (1))))) (hp (m1)) := by
  refine x_entryW (by decide +kernel) mwL_cheapest rfl (Nat.le_of_ble_eq_true rfl) ?_
  show X G ML_cheapest (rmE 2) 0 [(0, rf G 38 0), (1, .int (iI a0)), (2, .int (iI a1)), (3, rf G 49 0)] [] (hp (m)) 0 0 (.inl (some (.int (iI (1))))) (hp (m1))
  refine x_aload_n (pc := 0) dL_cheapest_0 3 rfl ?_
  refine x_iconst (pc := 1) dL_cheapest_1 ?_
  refine x_aload_n (pc := 2) dL_cheapest_2 0 rfl ?_
  refine x_iload_n (pc := 3) dL_cheapest_3 1 rfl ?_
  refine x_iload_n (pc := 4) dL_cheapest_4 2 rfl ?_
  refine x_callVC (pc := 5) _ dL_cheapest_5 (hc) lkL_51 rfl rfl rfl rfl (mem_dom0 (by decide) (by decide)) (by decide) (Nat.le_of_ble_eq_true rfl) rfl [] _ _ rfl (fun z hz => nomatch hz) (by decide) (by decide) clIO (by decide) (fun q => ?_)
  refine x_astore (pc := 13) (lv' := [(4, _), (0, _), (1, _), (2, _), (3, _)]) dL_cheapest_13 (by decide) rfl ?_
  refine x_iconst (pc := 15) dL_cheapest_15 ?_
  exact y_iret (pc := 16) dL_cheapest_16 rfl rfl rfl

theorem hq_cheapest_iaE {G : GG} {m m1 : Mem} {a0 a1 : Int} (hc : Ct G MX7_cheapest (rmE 1) [rf G 38 0, .int (iI a0), .int (iI a1)] (hp m) (.inr iaE) (hp m1)) : CtW G ML_cheapest ML_cheapest_h (rmE 2) [rf G 38 0, .int (iI a0), .int (iI a1), rf G 49 0] (hp (m)) (.inl (some (.int (iI (2))))) (hp (m1)) := by
  refine x_entryW (by decide +kernel) mwL_cheapest rfl (Nat.le_of_ble_eq_true rfl) ?_
  show X G ML_cheapest (rmE 2) 0 [(0, rf G 38 0), (1, .int (iI a0)), (2, .int (iI a1)), (3, rf G 49 0)] [] (hp (m)) 0 0 (.inl (some (.int (iI (2))))) (hp (m1))
  refine x_aload_n (pc := 0) dL_cheapest_0 3 rfl ?_
  refine x_iconst (pc := 1) dL_cheapest_1 ?_
  refine x_aload_n (pc := 2) dL_cheapest_2 0 rfl ?_
  refine x_iload_n (pc := 3) dL_cheapest_3 1 rfl ?_
  refine x_iload_n (pc := 4) dL_cheapest_4 2 rfl ?_
  refine x_callVC (pc := 5) _ dL_cheapest_5 (hc) lkL_51 rfl rfl rfl rfl (mem_dom0 (by decide) (by decide)) (by decide) (Nat.le_of_ble_eq_true rfl) rfl [_] _ _ rfl (fun z hz => by cases List.mem_singleton.mp hz; exact ⟨by decide, clIO, rfl⟩) (by decide) (by decide) clIA (by decide) (fun q => ?_)
  refine x_astore (pc := 17) (lv' := [(4, _), (0, _), (1, _), (2, _), (3, _)]) dL_cheapest_17 (by decide) rfl ?_
  refine x_iconst (pc := 19) dL_cheapest_19 ?_
  exact y_iret (pc := 20) dL_cheapest_20 rfl rfl rfl

theorem hq_lend {G : GG} {m m1 : Mem} {a0 a1 a2 : Int} {r : Int} (hr : inI r) (hc : Ct G MX7_lend (rmD 9) [rf G 38 0, .int (iI a0), .int (iI a1), .int (iI a2)] (hp m) (.inl (some (.int (iI (r))))) (hp m1)) : CtW G ML_lend ML_lend_h (rmD 10) [rf G 38 0, .int (iI a0), .int (iI a1), .int (iI a2), rf G 49 0] (hp (m)) (.inl (some (.int (iI (0))))) (hp (up3 m1 49 0 0 r)) := by
  refine x_entryW (by decide +kernel) mwL_lend rfl (Nat.le_of_ble_eq_true rfl) ?_
  show X G ML_lend (rmD 10) 0 [(0, rf G 38 0), (1, .int (iI a0)), (2, .int (iI a1)), (3, .int (iI a2)), (4, rf G 49 0)] [] (hp (m)) 0 0 (.inl (some (.int (iI (0))))) (hp (up3 m1 49 0 0 r))
  refine x_aload (pc := 0) dL_lend_0 4 rfl ?_
  refine x_iconst (pc := 2) dL_lend_2 ?_
  refine x_aload_n (pc := 3) dL_lend_3 0 rfl ?_
  refine x_iload_n (pc := 4) dL_lend_4 1 rfl ?_
  refine x_iload_n (pc := 5) dL_lend_5 2 rfl ?_
  refine x_iload_n (pc := 6) dL_lend_6 3 rfl ?_
  refine x_callV (pc := 7) _ dL_lend_7 (hc) lkL_54 rfl rfl rfl rfl (mem_dom0 (by decide) (by decide)) (by decide) (Nat.le_of_ble_eq_true rfl) rfl ?_
  refine x_i2l (pc := 10) dL_lend_10 hr ?_
  refine y_last (pc := 11) dL_lend_11 rfl (by decide) (by omega) ?_
  refine x_goto (pc := 12) 23 dL_lend_12 (by decide) ?_
  refine x_iconst (pc := 23) dL_lend_23 ?_
  exact y_iret (pc := 24) dL_lend_24 rfl rfl rfl

theorem hq_lend_ioE {G : GG} {m m1 : Mem} {a0 a1 a2 : Int} (hc : Ct G MX7_lend (rmE 1) [rf G 38 0, .int (iI a0), .int (iI a1), .int (iI a2)] (hp m) (.inr ioE) (hp m1)) : CtW G ML_lend ML_lend_h (rmE 2) [rf G 38 0, .int (iI a0), .int (iI a1), .int (iI a2), rf G 49 0] (hp (m)) (.inl (some (.int (iI (1))))) (hp (m1)) := by
  refine x_entryW (by decide +kernel) mwL_lend rfl (Nat.le_of_ble_eq_true rfl) ?_
  show X G ML_lend (rmE 2) 0 [(0, rf G 38 0), (1, .int (iI a0)), (2, .int (iI a1)), (3, .int (iI a2)), (4, rf G 49 0)] [] (hp (m)) 0 0 (.inl (some (.int (iI (1))))) (hp (m1))
  refine x_aload (pc := 0) dL_lend_0 4 rfl ?_
  refine x_iconst (pc := 2) dL_lend_2 ?_
  refine x_aload_n (pc := 3) dL_lend_3 0 rfl ?_
  refine x_iload_n (pc := 4) dL_lend_4 1 rfl ?_
  refine x_iload_n (pc := 5) dL_lend_5 2 rfl ?_
  refine x_iload_n (pc := 6) dL_lend_6 3 rfl ?_
  refine x_callVC (pc := 7) _ dL_lend_7 (hc) lkL_54 rfl rfl rfl rfl (mem_dom0 (by decide) (by decide)) (by decide) (Nat.le_of_ble_eq_true rfl) rfl [] _ _ rfl (fun z hz => nomatch hz) (by decide) (by decide) clIO (by decide) (fun q => ?_)
  refine x_astore (pc := 15) (lv' := [(5, _), (0, _), (1, _), (2, _), (3, _), (4, _)]) dL_lend_15 (by decide) rfl ?_
  refine x_iconst (pc := 17) dL_lend_17 ?_
  exact y_iret (pc := 18) dL_lend_18 rfl rfl rfl

theorem hq_lend_iaE {G : GG} {m m1 : Mem} {a0 a1 a2 : Int} (hc : Ct G MX7_lend (rmE 1) [rf G 38 0, .int (iI a0), .int (iI a1), .int (iI a2)] (hp m) (.inr iaE) (hp m1)) : CtW G ML_lend ML_lend_h (rmE 2) [rf G 38 0, .int (iI a0), .int (iI a1), .int (iI a2), rf G 49 0] (hp (m)) (.inl (some (.int (iI (2))))) (hp (m1)) := by
  refine x_entryW (by decide +kernel) mwL_lend rfl (Nat.le_of_ble_eq_true rfl) ?_
  show X G ML_lend (rmE 2) 0 [(0, rf G 38 0), (1, .int (iI a0)), (2, .int (iI a1)), (3, .int (iI a2)), (4, rf G 49 0)] [] (hp (m)) 0 0 (.inl (some (.int (iI (2))))) (hp (m1))
  refine x_aload (pc := 0) dL_lend_0 4 rfl ?_
  refine x_iconst (pc := 2) dL_lend_2 ?_
  refine x_aload_n (pc := 3) dL_lend_3 0 rfl ?_
  refine x_iload_n (pc := 4) dL_lend_4 1 rfl ?_
  refine x_iload_n (pc := 5) dL_lend_5 2 rfl ?_
  refine x_iload_n (pc := 6) dL_lend_6 3 rfl ?_
  refine x_callVC (pc := 7) _ dL_lend_7 (hc) lkL_54 rfl rfl rfl rfl (mem_dom0 (by decide) (by decide)) (by decide) (Nat.le_of_ble_eq_true rfl) rfl [_] _ _ rfl (fun z hz => by cases List.mem_singleton.mp hz; exact ⟨by decide, clIO, rfl⟩) (by decide) (by decide) clIA (by decide) (fun q => ?_)
  refine x_astore (pc := 19) (lv' := [(5, _), (0, _), (1, _), (2, _), (3, _), (4, _)]) dL_lend_19 (by decide) rfl ?_
  refine x_iconst (pc := 21) dL_lend_21 ?_
  exact y_iret (pc := 22) dL_lend_22 rfl rfl rfl

theorem hq_recall {G : GG} {m m1 : Mem} {a0 : Int} {r : Int} (hr : inI r) (hc : Ct G MX7_recall (rmD 9) [rf G 38 0, .int (iI a0)] (hp m) (.inl (some (.int (iI (r))))) (hp m1)) : CtW G ML_recall ML_recall_h (rmD 10) [rf G 38 0, .int (iI a0), rf G 49 0] (hp (m)) (.inl (some (.int (iI (0))))) (hp (up3 m1 49 0 0 r)) := by
  refine x_entryW (by decide +kernel) mwL_recall rfl (Nat.le_of_ble_eq_true rfl) ?_
  show X G ML_recall (rmD 10) 0 [(0, rf G 38 0), (1, .int (iI a0)), (2, rf G 49 0)] [] (hp (m)) 0 0 (.inl (some (.int (iI (0))))) (hp (up3 m1 49 0 0 r))
  refine x_aload_n (pc := 0) dL_recall_0 2 rfl ?_
  refine x_iconst (pc := 1) dL_recall_1 ?_
  refine x_aload_n (pc := 2) dL_recall_2 0 rfl ?_
  refine x_iload_n (pc := 3) dL_recall_3 1 rfl ?_
  refine x_callV (pc := 4) _ dL_recall_4 (hc) lkL_57 rfl rfl rfl rfl (mem_dom0 (by decide) (by decide)) (by decide) (Nat.le_of_ble_eq_true rfl) rfl ?_
  refine x_i2l (pc := 7) dL_recall_7 hr ?_
  refine y_last (pc := 8) dL_recall_8 rfl (by decide) (by omega) ?_
  refine x_goto (pc := 9) 15 dL_recall_9 (by decide) ?_
  refine x_iconst (pc := 15) dL_recall_15 ?_
  exact y_iret (pc := 16) dL_recall_16 rfl rfl rfl

theorem hq_recall_ioE {G : GG} {m m1 : Mem} {a0 : Int} (hc : Ct G MX7_recall (rmE 1) [rf G 38 0, .int (iI a0)] (hp m) (.inr ioE) (hp m1)) : CtW G ML_recall ML_recall_h (rmE 2) [rf G 38 0, .int (iI a0), rf G 49 0] (hp (m)) (.inl (some (.int (iI (1))))) (hp (m1)) := by
  refine x_entryW (by decide +kernel) mwL_recall rfl (Nat.le_of_ble_eq_true rfl) ?_
  show X G ML_recall (rmE 2) 0 [(0, rf G 38 0), (1, .int (iI a0)), (2, rf G 49 0)] [] (hp (m)) 0 0 (.inl (some (.int (iI (1))))) (hp (m1))
  refine x_aload_n (pc := 0) dL_recall_0 2 rfl ?_
  refine x_iconst (pc := 1) dL_recall_1 ?_
  refine x_aload_n (pc := 2) dL_recall_2 0 rfl ?_
  refine x_iload_n (pc := 3) dL_recall_3 1 rfl ?_
  refine x_callVC (pc := 4) _ dL_recall_4 (hc) lkL_57 rfl rfl rfl rfl (mem_dom0 (by decide) (by decide)) (by decide) (Nat.le_of_ble_eq_true rfl) rfl [] _ _ rfl (fun z hz => nomatch hz) (by decide) (by decide) clIO (by decide) (fun q => ?_)
  refine x_astore_n (pc := 12) (lv' := [(3, _), (0, _), (1, _), (2, _)]) dL_recall_12 rfl (by decide) rfl ?_
  refine x_iconst (pc := 13) dL_recall_13 ?_
  exact y_iret (pc := 14) dL_recall_14 rfl rfl rfl

theorem hq_giveBack {G : GG} {m m1 : Mem} {a0 : Int} {r : Int} (hr : inI r) (hc : Ct G MX7_giveBack (rmD 9) [rf G 38 0, .int (iI a0)] (hp m) (.inl (some (.int (iI (r))))) (hp m1)) : CtW G ML_giveBack ML_giveBack_h (rmD 10) [rf G 38 0, .int (iI a0), rf G 49 0] (hp (m)) (.inl (some (.int (iI (0))))) (hp (up3 m1 49 0 0 r)) := by
  refine x_entryW (by decide +kernel) mwL_giveBack rfl (Nat.le_of_ble_eq_true rfl) ?_
  show X G ML_giveBack (rmD 10) 0 [(0, rf G 38 0), (1, .int (iI a0)), (2, rf G 49 0)] [] (hp (m)) 0 0 (.inl (some (.int (iI (0))))) (hp (up3 m1 49 0 0 r))
  refine x_aload_n (pc := 0) dL_giveBack_0 2 rfl ?_
  refine x_iconst (pc := 1) dL_giveBack_1 ?_
  refine x_aload_n (pc := 2) dL_giveBack_2 0 rfl ?_
  refine x_iload_n (pc := 3) dL_giveBack_3 1 rfl ?_
  refine x_callV (pc := 4) _ dL_giveBack_4 (hc) lkL_60 rfl rfl rfl rfl (mem_dom0 (by decide) (by decide)) (by decide) (Nat.le_of_ble_eq_true rfl) rfl ?_
  refine x_i2l (pc := 7) dL_giveBack_7 hr ?_
  refine y_last (pc := 8) dL_giveBack_8 rfl (by decide) (by omega) ?_
  refine x_goto (pc := 9) 15 dL_giveBack_9 (by decide) ?_
  refine x_iconst (pc := 15) dL_giveBack_15 ?_
  exact y_iret (pc := 16) dL_giveBack_16 rfl rfl rfl

theorem hq_giveBack_ioE {G : GG} {m m1 : Mem} {a0 : Int} (hc : Ct G MX7_giveBack (rmE 1) [rf G 38 0, .int (iI a0)] (hp m) (.inr ioE) (hp m1)) : CtW G ML_giveBack ML_giveBack_h (rmE 2) [rf G 38 0, .int (iI a0), rf G 49 0] (hp (m)) (.inl (some (.int (iI (1))))) (hp (m1)) := by
  refine x_entryW (by decide +kernel) mwL_giveBack rfl (Nat.le_of_ble_eq_true rfl) ?_
  show X G ML_giveBack (rmE 2) 0 [(0, rf G 38 0), (1, .int (iI a0)), (2, rf G 49 0)] [] (hp (m)) 0 0 (.inl (some (.int (iI (1))))) (hp (m1))
  refine x_aload_n (pc := 0) dL_giveBack_0 2 rfl ?_
  refine x_iconst (pc := 1) dL_giveBack_1 ?_
  refine x_aload_n (pc := 2) dL_giveBack_2 0 rfl ?_
  refine x_iload_n (pc := 3) dL_giveBack_3 1 rfl ?_
  refine x_callVC (pc := 4) _ dL_giveBack_4 (hc) lkL_60 rfl rfl rfl rfl (mem_dom0 (by decide) (by decide)) (by decide) (Nat.le_of_ble_eq_true rfl) rfl [] _ _ rfl (fun z hz => nomatch hz) (by decide) (by decide) clIO (by decide) (fun q => ?_)
  refine x_astore_n (pc := 12) (lv' := [(3, _), (0, _), (1, _), (2, _)]) dL_giveBack_12 rfl (by decide) rfl ?_
  refine x_iconst (pc := 13) dL_giveBack_13 ?_
  exact y_iret (pc := 14) dL_giveBack_14 rfl rfl rfl

theorem hq_forgive {G : GG} {m m1 : Mem} {a0 : Int} {r : Int} (hr : inI r) (hc : Ct G MX7_forgive (rmD 9) [rf G 38 0, .int (iI a0)] (hp m) (.inl (some (.int (iI (r))))) (hp m1)) : CtW G ML_forgive ML_forgive_h (rmD 10) [rf G 38 0, .int (iI a0), rf G 49 0] (hp (m)) (.inl (some (.int (iI (0))))) (hp (up3 m1 49 0 0 r)) := by
  refine x_entryW (by decide +kernel) mwL_forgive rfl (Nat.le_of_ble_eq_true rfl) ?_
  show X G ML_forgive (rmD 10) 0 [(0, rf G 38 0), (1, .int (iI a0)), (2, rf G 49 0)] [] (hp (m)) 0 0 (.inl (some (.int (iI (0))))) (hp (up3 m1 49 0 0 r))
  refine x_aload_n (pc := 0) dL_forgive_0 2 rfl ?_
  refine x_iconst (pc := 1) dL_forgive_1 ?_
  refine x_aload_n (pc := 2) dL_forgive_2 0 rfl ?_
  refine x_iload_n (pc := 3) dL_forgive_3 1 rfl ?_
  refine x_callV (pc := 4) _ dL_forgive_4 (hc) lkL_63 rfl rfl rfl rfl (mem_dom0 (by decide) (by decide)) (by decide) (Nat.le_of_ble_eq_true rfl) rfl ?_
  refine x_i2l (pc := 7) dL_forgive_7 hr ?_
  refine y_last (pc := 8) dL_forgive_8 rfl (by decide) (by omega) ?_
  refine x_goto (pc := 9) 15 dL_forgive_9 (by decide) ?_
  refine x_iconst (pc := 15) dL_forgive_15 ?_
  exact y_iret (pc := 16) dL_forgive_16 rfl rfl rfl

theorem hq_forgive_ioE {G : GG} {m m1 : Mem} {a0 : Int} (hc : Ct G MX7_forgive (rmE 1) [rf G 38 0, .int (iI a0)] (hp m) (.inr ioE) (hp m1)) : CtW G ML_forgive ML_forgive_h (rmE 2) [rf G 38 0, .int (iI a0), rf G 49 0] (hp (m)) (.inl (some (.int (iI (1))))) (hp (m1)) := by
  refine x_entryW (by decide +kernel) mwL_forgive rfl (Nat.le_of_ble_eq_true rfl) ?_
  show X G ML_forgive (rmE 2) 0 [(0, rf G 38 0), (1, .int (iI a0)), (2, rf G 49 0)] [] (hp (m)) 0 0 (.inl (some (.int (iI (1))))) (hp (m1))
  refine x_aload_n (pc := 0) dL_forgive_0 2 rfl ?_
  refine x_iconst (pc := 1) dL_forgive_1 ?_
  refine x_aload_n (pc := 2) dL_forgive_2 0 rfl ?_
  refine x_iload_n (pc := 3) dL_forgive_3 1 rfl ?_
  refine x_callVC (pc := 4) _ dL_forgive_4 (hc) lkL_63 rfl rfl rfl rfl (mem_dom0 (by decide) (by decide)) (by decide) (Nat.le_of_ble_eq_true rfl) rfl [] _ _ rfl (fun z hz => nomatch hz) (by decide) (by decide) clIO (by decide) (fun q => ?_)
  refine x_astore_n (pc := 12) (lv' := [(3, _), (0, _), (1, _), (2, _)]) dL_forgive_12 rfl (by decide) rfl ?_
  refine x_iconst (pc := 13) dL_forgive_13 ?_
  exact y_iret (pc := 14) dL_forgive_14 rfl rfl rfl

theorem hq_mend {G : GG} {m m1 : Mem} {a0 : Int} {r : Int} (hr : inI r) (hc : Ct G MX7_mend (rmD 9) [rf G 38 0, .int (iI a0)] (hp m) (.inl (some (.int (iI (r))))) (hp m1)) : CtW G ML_mend ML_mend_h (rmD 10) [rf G 38 0, .int (iI a0), rf G 49 0] (hp (m)) (.inl (some (.int (iI (0))))) (hp (up3 m1 49 0 0 r)) := by
  refine x_entryW (by decide +kernel) mwL_mend rfl (Nat.le_of_ble_eq_true rfl) ?_
  show X G ML_mend (rmD 10) 0 [(0, rf G 38 0), (1, .int (iI a0)), (2, rf G 49 0)] [] (hp (m)) 0 0 (.inl (some (.int (iI (0))))) (hp (up3 m1 49 0 0 r))
  refine x_aload_n (pc := 0) dL_mend_0 2 rfl ?_
  refine x_iconst (pc := 1) dL_mend_1 ?_
  refine x_aload_n (pc := 2) dL_mend_2 0 rfl ?_
  refine x_iload_n (pc := 3) dL_mend_3 1 rfl ?_
  refine x_callV (pc := 4) _ dL_mend_4 (hc) lkL_66 rfl rfl rfl rfl (mem_dom0 (by decide) (by decide)) (by decide) (Nat.le_of_ble_eq_true rfl) rfl ?_
  refine x_i2l (pc := 7) dL_mend_7 hr ?_
  refine y_last (pc := 8) dL_mend_8 rfl (by decide) (by omega) ?_
  refine x_goto (pc := 9) 15 dL_mend_9 (by decide) ?_
  refine x_iconst (pc := 15) dL_mend_15 ?_
  exact y_iret (pc := 16) dL_mend_16 rfl rfl rfl

theorem hq_mend_ioE {G : GG} {m m1 : Mem} {a0 : Int} (hc : Ct G MX7_mend (rmE 1) [rf G 38 0, .int (iI a0)] (hp m) (.inr ioE) (hp m1)) : CtW G ML_mend ML_mend_h (rmE 2) [rf G 38 0, .int (iI a0), rf G 49 0] (hp (m)) (.inl (some (.int (iI (1))))) (hp (m1)) := by
  refine x_entryW (by decide +kernel) mwL_mend rfl (Nat.le_of_ble_eq_true rfl) ?_
  show X G ML_mend (rmE 2) 0 [(0, rf G 38 0), (1, .int (iI a0)), (2, rf G 49 0)] [] (hp (m)) 0 0 (.inl (some (.int (iI (1))))) (hp (m1))
  refine x_aload_n (pc := 0) dL_mend_0 2 rfl ?_
  refine x_iconst (pc := 1) dL_mend_1 ?_
  refine x_aload_n (pc := 2) dL_mend_2 0 rfl ?_
  refine x_iload_n (pc := 3) dL_mend_3 1 rfl ?_
  refine x_callVC (pc := 4) _ dL_mend_4 (hc) lkL_66 rfl rfl rfl rfl (mem_dom0 (by decide) (by decide)) (by decide) (Nat.le_of_ble_eq_true rfl) rfl [] _ _ rfl (fun z hz => nomatch hz) (by decide) (by decide) clIO (by decide) (fun q => ?_)
  refine x_astore_n (pc := 12) (lv' := [(3, _), (0, _), (1, _), (2, _)]) dL_mend_12 rfl (by decide) rfl ?_
  refine x_iconst (pc := 13) dL_mend_13 ?_
  exact y_iret (pc := 14) dL_mend_14 rfl rfl rfl

theorem hq_charge {G : GG} {m m1 : Mem} {a0 a1 : Int} {r : Int} (hr : inI r) (hc : Ct G MX7_charge (rmD 9) [rf G 38 0, .int (iI a0), .int (iI a1)] (hp m) (.inl (some (.int (iI (r))))) (hp m1)) : CtW G ML_charge ML_charge_h (rmD 10) [rf G 38 0, .int (iI a0), .int (iI a1), rf G 49 0] (hp (m)) (.inl (some (.int (iI (0))))) (hp (up3 m1 49 0 0 r)) := by
  refine x_entryW (by decide +kernel) mwL_charge rfl (Nat.le_of_ble_eq_true rfl) ?_
  show X G ML_charge (rmD 10) 0 [(0, rf G 38 0), (1, .int (iI a0)), (2, .int (iI a1)), (3, rf G 49 0)] [] (hp (m)) 0 0 (.inl (some (.int (iI (0))))) (hp (up3 m1 49 0 0 r))
  refine x_aload_n (pc := 0) dL_charge_0 3 rfl ?_
  refine x_iconst (pc := 1) dL_charge_1 ?_
  refine x_aload_n (pc := 2) dL_charge_2 0 rfl ?_
  refine x_iload_n (pc := 3) dL_charge_3 1 rfl ?_
  refine x_iload_n (pc := 4) dL_charge_4 2 rfl ?_
  refine x_callV (pc := 5) _ dL_charge_5 (hc) lkL_69 rfl rfl rfl rfl (mem_dom0 (by decide) (by decide)) (by decide) (Nat.le_of_ble_eq_true rfl) rfl ?_
  refine x_i2l (pc := 8) dL_charge_8 hr ?_
  refine y_last (pc := 9) dL_charge_9 rfl (by decide) (by omega) ?_
  refine x_goto (pc := 10) 21 dL_charge_10 (by decide) ?_
  refine x_iconst (pc := 21) dL_charge_21 ?_
  exact y_iret (pc := 22) dL_charge_22 rfl rfl rfl

theorem hq_charge_ioE {G : GG} {m m1 : Mem} {a0 a1 : Int} (hc : Ct G MX7_charge (rmE 1) [rf G 38 0, .int (iI a0), .int (iI a1)] (hp m) (.inr ioE) (hp m1)) : CtW G ML_charge ML_charge_h (rmE 2) [rf G 38 0, .int (iI a0), .int (iI a1), rf G 49 0] (hp (m)) (.inl (some (.int (iI (1))))) (hp (m1)) := by
  refine x_entryW (by decide +kernel) mwL_charge rfl (Nat.le_of_ble_eq_true rfl) ?_
  show X G ML_charge (rmE 2) 0 [(0, rf G 38 0), (1, .int (iI a0)), (2, .int (iI a1)), (3, rf G 49 0)] [] (hp (m)) 0 0 (.inl (some (.int (iI (1))))) (hp (m1))
  refine x_aload_n (pc := 0) dL_charge_0 3 rfl ?_
  refine x_iconst (pc := 1) dL_charge_1 ?_
  refine x_aload_n (pc := 2) dL_charge_2 0 rfl ?_
  refine x_iload_n (pc := 3) dL_charge_3 1 rfl ?_
  refine x_iload_n (pc := 4) dL_charge_4 2 rfl ?_
  refine x_callVC (pc := 5) _ dL_charge_5 (hc) lkL_69 rfl rfl rfl rfl (mem_dom0 (by decide) (by decide)) (by decide) (Nat.le_of_ble_eq_true rfl) rfl [] _ _ rfl (fun z hz => nomatch hz) (by decide) (by decide) clIO (by decide) (fun q => ?_)
  refine x_astore (pc := 13) (lv' := [(4, _), (0, _), (1, _), (2, _), (3, _)]) dL_charge_13 (by decide) rfl ?_
  refine x_iconst (pc := 15) dL_charge_15 ?_
  exact y_iret (pc := 16) dL_charge_16 rfl rfl rfl

theorem hq_charge_iaE {G : GG} {m m1 : Mem} {a0 a1 : Int} (hc : Ct G MX7_charge (rmE 1) [rf G 38 0, .int (iI a0), .int (iI a1)] (hp m) (.inr iaE) (hp m1)) : CtW G ML_charge ML_charge_h (rmE 2) [rf G 38 0, .int (iI a0), .int (iI a1), rf G 49 0] (hp (m)) (.inl (some (.int (iI (2))))) (hp (m1)) := by
  refine x_entryW (by decide +kernel) mwL_charge rfl (Nat.le_of_ble_eq_true rfl) ?_
  show X G ML_charge (rmE 2) 0 [(0, rf G 38 0), (1, .int (iI a0)), (2, .int (iI a1)), (3, rf G 49 0)] [] (hp (m)) 0 0 (.inl (some (.int (iI (2))))) (hp (m1))
  refine x_aload_n (pc := 0) dL_charge_0 3 rfl ?_
  refine x_iconst (pc := 1) dL_charge_1 ?_
  refine x_aload_n (pc := 2) dL_charge_2 0 rfl ?_
  refine x_iload_n (pc := 3) dL_charge_3 1 rfl ?_
  refine x_iload_n (pc := 4) dL_charge_4 2 rfl ?_
  refine x_callVC (pc := 5) _ dL_charge_5 (hc) lkL_69 rfl rfl rfl rfl (mem_dom0 (by decide) (by decide)) (by decide) (Nat.le_of_ble_eq_true rfl) rfl [_] _ _ rfl (fun z hz => by cases List.mem_singleton.mp hz; exact ⟨by decide, clIO, rfl⟩) (by decide) (by decide) clIA (by decide) (fun q => ?_)
  refine x_astore (pc := 17) (lv' := [(4, _), (0, _), (1, _), (2, _), (3, _)]) dL_charge_17 (by decide) rfl ?_
  refine x_iconst (pc := 19) dL_charge_19 ?_
  exact y_iret (pc := 20) dL_charge_20 rfl rfl rfl

theorem hq_drain {G : GG} {m m1 : Mem} {a0 a1 : Int} {r : Int} (hr : inI r) (hc : Ct G MX7_drain (rmD 9) [rf G 38 0, .int (iI a0), .int (iI a1)] (hp m) (.inl (some (.int (iI (r))))) (hp m1)) : CtW G ML_drain ML_drain_h (rmD 10) [rf G 38 0, .int (iI a0), .int (iI a1), rf G 49 0] (hp (m)) (.inl (some (.int (iI (0))))) (hp (up3 m1 49 0 0 r)) := by
  refine x_entryW (by decide +kernel) mwL_drain rfl (Nat.le_of_ble_eq_true rfl) ?_
  show X G ML_drain (rmD 10) 0 [(0, rf G 38 0), (1, .int (iI a0)), (2, .int (iI a1)), (3, rf G 49 0)] [] (hp (m)) 0 0 (.inl (some (.int (iI (0))))) (hp (up3 m1 49 0 0 r))
  refine x_aload_n (pc := 0) dL_drain_0 3 rfl ?_
  refine x_iconst (pc := 1) dL_drain_1 ?_
  refine x_aload_n (pc := 2) dL_drain_2 0 rfl ?_
  refine x_iload_n (pc := 3) dL_drain_3 1 rfl ?_
  refine x_iload_n (pc := 4) dL_drain_4 2 rfl ?_
  refine x_callV (pc := 5) _ dL_drain_5 (hc) lkL_72 rfl rfl rfl rfl (mem_dom0 (by decide) (by decide)) (by decide) (Nat.le_of_ble_eq_true rfl) rfl ?_
  refine x_i2l (pc := 8) dL_drain_8 hr ?_
  refine y_last (pc := 9) dL_drain_9 rfl (by decide) (by omega) ?_
  refine x_goto (pc := 10) 21 dL_drain_10 (by decide) ?_
  refine x_iconst (pc := 21) dL_drain_21 ?_
  exact y_iret (pc := 22) dL_drain_22 rfl rfl rfl

theorem hq_drain_ioE {G : GG} {m m1 : Mem} {a0 a1 : Int} (hc : Ct G MX7_drain (rmE 1) [rf G 38 0, .int (iI a0), .int (iI a1)] (hp m) (.inr ioE) (hp m1)) : CtW G ML_drain ML_drain_h (rmE 2) [rf G 38 0, .int (iI a0), .int (iI a1), rf G 49 0] (hp (m)) (.inl (some (.int (iI (1))))) (hp (m1)) := by
  refine x_entryW (by decide +kernel) mwL_drain rfl (Nat.le_of_ble_eq_true rfl) ?_
  show X G ML_drain (rmE 2) 0 [(0, rf G 38 0), (1, .int (iI a0)), (2, .int (iI a1)), (3, rf G 49 0)] [] (hp (m)) 0 0 (.inl (some (.int (iI (1))))) (hp (m1))
  refine x_aload_n (pc := 0) dL_drain_0 3 rfl ?_
  refine x_iconst (pc := 1) dL_drain_1 ?_
  refine x_aload_n (pc := 2) dL_drain_2 0 rfl ?_
  refine x_iload_n (pc := 3) dL_drain_3 1 rfl ?_
  refine x_iload_n (pc := 4) dL_drain_4 2 rfl ?_
  refine x_callVC (pc := 5) _ dL_drain_5 (hc) lkL_72 rfl rfl rfl rfl (mem_dom0 (by decide) (by decide)) (by decide) (Nat.le_of_ble_eq_true rfl) rfl [] _ _ rfl (fun z hz => nomatch hz) (by decide) (by decide) clIO (by decide) (fun q => ?_)
  refine x_astore (pc := 13) (lv' := [(4, _), (0, _), (1, _), (2, _), (3, _)]) dL_drain_13 (by decide) rfl ?_
  refine x_iconst (pc := 15) dL_drain_15 ?_
  exact y_iret (pc := 16) dL_drain_16 rfl rfl rfl

theorem hq_drain_iaE {G : GG} {m m1 : Mem} {a0 a1 : Int} (hc : Ct G MX7_drain (rmE 1) [rf G 38 0, .int (iI a0), .int (iI a1)] (hp m) (.inr iaE) (hp m1)) : CtW G ML_drain ML_drain_h (rmE 2) [rf G 38 0, .int (iI a0), .int (iI a1), rf G 49 0] (hp (m)) (.inl (some (.int (iI (2))))) (hp (m1)) := by
  refine x_entryW (by decide +kernel) mwL_drain rfl (Nat.le_of_ble_eq_true rfl) ?_
  show X G ML_drain (rmE 2) 0 [(0, rf G 38 0), (1, .int (iI a0)), (2, .int (iI a1)), (3, rf G 49 0)] [] (hp (m)) 0 0 (.inl (some (.int (iI (2))))) (hp (m1))
  refine x_aload_n (pc := 0) dL_drain_0 3 rfl ?_
  refine x_iconst (pc := 1) dL_drain_1 ?_
  refine x_aload_n (pc := 2) dL_drain_2 0 rfl ?_
  refine x_iload_n (pc := 3) dL_drain_3 1 rfl ?_
  refine x_iload_n (pc := 4) dL_drain_4 2 rfl ?_
  refine x_callVC (pc := 5) _ dL_drain_5 (hc) lkL_72 rfl rfl rfl rfl (mem_dom0 (by decide) (by decide)) (by decide) (Nat.le_of_ble_eq_true rfl) rfl [_] _ _ rfl (fun z hz => by cases List.mem_singleton.mp hz; exact ⟨by decide, clIO, rfl⟩) (by decide) (by decide) clIA (by decide) (fun q => ?_)
  refine x_astore (pc := 17) (lv' := [(4, _), (0, _), (1, _), (2, _), (3, _)]) dL_drain_17 (by decide) rfl ?_
  refine x_iconst (pc := 19) dL_drain_19 ?_
  exact y_iret (pc := 20) dL_drain_20 rfl rfl rfl

theorem hq_setReserve {G : GG} {m m1 : Mem} {a0 a1 : Int} {r : Int} (hr : inI r) (hc : Ct G MX7_setReserve (rmD 9) [rf G 38 0, .int (iI a0), .int (iI a1)] (hp m) (.inl (some (.int (iI (r))))) (hp m1)) : CtW G ML_setReserve ML_setReserve_h (rmD 10) [rf G 38 0, .int (iI a0), .int (iI a1), rf G 49 0] (hp (m)) (.inl (some (.int (iI (0))))) (hp (up3 m1 49 0 0 r)) := by
  refine x_entryW (by decide +kernel) mwL_setReserve rfl (Nat.le_of_ble_eq_true rfl) ?_
  show X G ML_setReserve (rmD 10) 0 [(0, rf G 38 0), (1, .int (iI a0)), (2, .int (iI a1)), (3, rf G 49 0)] [] (hp (m)) 0 0 (.inl (some (.int (iI (0))))) (hp (up3 m1 49 0 0 r))
  refine x_aload_n (pc := 0) dL_setReserve_0 3 rfl ?_
  refine x_iconst (pc := 1) dL_setReserve_1 ?_
  refine x_aload_n (pc := 2) dL_setReserve_2 0 rfl ?_
  refine x_iload_n (pc := 3) dL_setReserve_3 1 rfl ?_
  refine x_iload_n (pc := 4) dL_setReserve_4 2 rfl ?_
  refine x_callV (pc := 5) _ dL_setReserve_5 (hc) lkL_75 rfl rfl rfl rfl (mem_dom0 (by decide) (by decide)) (by decide) (Nat.le_of_ble_eq_true rfl) rfl ?_
  refine x_i2l (pc := 8) dL_setReserve_8 hr ?_
  refine y_last (pc := 9) dL_setReserve_9 rfl (by decide) (by omega) ?_
  refine x_goto (pc := 10) 21 dL_setReserve_10 (by decide) ?_
  refine x_iconst (pc := 21) dL_setReserve_21 ?_
  exact y_iret (pc := 22) dL_setReserve_22 rfl rfl rfl

theorem hq_setReserve_ioE {G : GG} {m m1 : Mem} {a0 a1 : Int} (hc : Ct G MX7_setReserve (rmE 1) [rf G 38 0, .int (iI a0), .int (iI a1)] (hp m) (.inr ioE) (hp m1)) : CtW G ML_setReserve ML_setReserve_h (rmE 2) [rf G 38 0, .int (iI a0), .int (iI a1), rf G 49 0] (hp (m)) (.inl (some (.int (iI (1))))) (hp (m1)) := by
  refine x_entryW (by decide +kernel) mwL_setReserve rfl (Nat.le_of_ble_eq_true rfl) ?_
  show X G ML_setReserve (rmE 2) 0 [(0, rf G 38 0), (1, .int (iI a0)), (2, .int (iI a1)), (3, rf G 49 0)] [] (hp (m)) 0 0 (.inl (some (.int (iI (1))))) (hp (m1))
  refine x_aload_n (pc := 0) dL_setReserve_0 3 rfl ?_
  refine x_iconst (pc := 1) dL_setReserve_1 ?_
  refine x_aload_n (pc := 2) dL_setReserve_2 0 rfl ?_
  refine x_iload_n (pc := 3) dL_setReserve_3 1 rfl ?_
  refine x_iload_n (pc := 4) dL_setReserve_4 2 rfl ?_
  refine x_callVC (pc := 5) _ dL_setReserve_5 (hc) lkL_75 rfl rfl rfl rfl (mem_dom0 (by decide) (by decide)) (by decide) (Nat.le_of_ble_eq_true rfl) rfl [] _ _ rfl (fun z hz => nomatch hz) (by decide) (by decide) clIO (by decide) (fun q => ?_)
  refine x_astore (pc := 13) (lv' := [(4, _), (0, _), (1, _), (2, _), (3, _)]) dL_setReserve_13 (by decide) rfl ?_
  refine x_iconst (pc := 15) dL_setReserve_15 ?_
  exact y_iret (pc := 16) dL_setReserve_16 rfl rfl rfl

theorem hq_setReserve_iaE {G : GG} {m m1 : Mem} {a0 a1 : Int} (hc : Ct G MX7_setReserve (rmE 1) [rf G 38 0, .int (iI a0), .int (iI a1)] (hp m) (.inr iaE) (hp m1)) : CtW G ML_setReserve ML_setReserve_h (rmE 2) [rf G 38 0, .int (iI a0), .int (iI a1), rf G 49 0] (hp (m)) (.inl (some (.int (iI (2))))) (hp (m1)) := by
  refine x_entryW (by decide +kernel) mwL_setReserve rfl (Nat.le_of_ble_eq_true rfl) ?_
  show X G ML_setReserve (rmE 2) 0 [(0, rf G 38 0), (1, .int (iI a0)), (2, .int (iI a1)), (3, rf G 49 0)] [] (hp (m)) 0 0 (.inl (some (.int (iI (2))))) (hp (m1))
  refine x_aload_n (pc := 0) dL_setReserve_0 3 rfl ?_
  refine x_iconst (pc := 1) dL_setReserve_1 ?_
  refine x_aload_n (pc := 2) dL_setReserve_2 0 rfl ?_
  refine x_iload_n (pc := 3) dL_setReserve_3 1 rfl ?_
  refine x_iload_n (pc := 4) dL_setReserve_4 2 rfl ?_
  refine x_callVC (pc := 5) _ dL_setReserve_5 (hc) lkL_75 rfl rfl rfl rfl (mem_dom0 (by decide) (by decide)) (by decide) (Nat.le_of_ble_eq_true rfl) rfl [_] _ _ rfl (fun z hz => by cases List.mem_singleton.mp hz; exact ⟨by decide, clIO, rfl⟩) (by decide) (by decide) clIA (by decide) (fun q => ?_)
  refine x_astore (pc := 17) (lv' := [(4, _), (0, _), (1, _), (2, _), (3, _)]) dL_setReserve_17 (by decide) rfl ?_
  refine x_iconst (pc := 19) dL_setReserve_19 ?_
  exact y_iret (pc := 20) dL_setReserve_20 rfl rfl rfl

theorem hq_setCable {G : GG} {m m1 : Mem} {a0 a1 a2 a3 : Int} {r : Int} (hr : inI r) (hc : Ct G MX7_setCable (rmD 9) [rf G 38 0, .int (iI a0), .int (iI a1), .int (iI a2), .int (iI a3)] (hp m) (.inl (some (.int (iI (r))))) (hp m1)) : CtW G ML_setCable ML_setCable_h (rmD 10) [rf G 38 0, .int (iI a0), .int (iI a1), .int (iI a2), .int (iI a3), rf G 49 0] (hp (m)) (.inl (some (.int (iI (0))))) (hp (up3 m1 49 0 0 r)) := by
  refine x_entryW (by decide +kernel) mwL_setCable rfl (Nat.le_of_ble_eq_true rfl) ?_
  show X G ML_setCable (rmD 10) 0 [(0, rf G 38 0), (1, .int (iI a0)), (2, .int (iI a1)), (3, .int (iI a2)), (4, .int (iI a3)), (5, rf G 49 0)] [] (hp (m)) 0 0 (.inl (some (.int (iI (0))))) (hp (up3 m1 49 0 0 r))
  refine x_aload (pc := 0) dL_setCable_0 5 rfl ?_
  refine x_iconst (pc := 2) dL_setCable_2 ?_
  refine x_aload_n (pc := 3) dL_setCable_3 0 rfl ?_
  refine x_iload_n (pc := 4) dL_setCable_4 1 rfl ?_
  refine x_iload_n (pc := 5) dL_setCable_5 2 rfl ?_
  refine x_iload_n (pc := 6) dL_setCable_6 3 rfl ?_
  refine x_iload (pc := 7) dL_setCable_7 4 rfl ?_
  refine x_callV (pc := 9) _ dL_setCable_9 (hc) lkL_78 rfl rfl rfl rfl (mem_dom0 (by decide) (by decide)) (by decide) (Nat.le_of_ble_eq_true rfl) rfl ?_
  refine x_i2l (pc := 12) dL_setCable_12 hr ?_
  refine y_last (pc := 13) dL_setCable_13 rfl (by decide) (by omega) ?_
  refine x_goto (pc := 14) 25 dL_setCable_14 (by decide) ?_
  refine x_iconst (pc := 25) dL_setCable_25 ?_
  exact y_iret (pc := 26) dL_setCable_26 rfl rfl rfl

theorem hq_setCable_ioE {G : GG} {m m1 : Mem} {a0 a1 a2 a3 : Int} (hc : Ct G MX7_setCable (rmE 1) [rf G 38 0, .int (iI a0), .int (iI a1), .int (iI a2), .int (iI a3)] (hp m) (.inr ioE) (hp m1)) : CtW G ML_setCable ML_setCable_h (rmE 2) [rf G 38 0, .int (iI a0), .int (iI a1), .int (iI a2), .int (iI a3), rf G 49 0] (hp (m)) (.inl (some (.int (iI (1))))) (hp (m1)) := by
  refine x_entryW (by decide +kernel) mwL_setCable rfl (Nat.le_of_ble_eq_true rfl) ?_
  show X G ML_setCable (rmE 2) 0 [(0, rf G 38 0), (1, .int (iI a0)), (2, .int (iI a1)), (3, .int (iI a2)), (4, .int (iI a3)), (5, rf G 49 0)] [] (hp (m)) 0 0 (.inl (some (.int (iI (1))))) (hp (m1))
  refine x_aload (pc := 0) dL_setCable_0 5 rfl ?_
  refine x_iconst (pc := 2) dL_setCable_2 ?_
  refine x_aload_n (pc := 3) dL_setCable_3 0 rfl ?_
  refine x_iload_n (pc := 4) dL_setCable_4 1 rfl ?_
  refine x_iload_n (pc := 5) dL_setCable_5 2 rfl ?_
  refine x_iload_n (pc := 6) dL_setCable_6 3 rfl ?_
  refine x_iload (pc := 7) dL_setCable_7 4 rfl ?_
  refine x_callVC (pc := 9) _ dL_setCable_9 (hc) lkL_78 rfl rfl rfl rfl (mem_dom0 (by decide) (by decide)) (by decide) (Nat.le_of_ble_eq_true rfl) rfl [] _ _ rfl (fun z hz => nomatch hz) (by decide) (by decide) clIO (by decide) (fun q => ?_)
  refine x_astore (pc := 17) (lv' := [(6, _), (0, _), (1, _), (2, _), (3, _), (4, _), (5, _)]) dL_setCable_17 (by decide) rfl ?_
  refine x_iconst (pc := 19) dL_setCable_19 ?_
  exact y_iret (pc := 20) dL_setCable_20 rfl rfl rfl

theorem hq_setCable_iaE {G : GG} {m m1 : Mem} {a0 a1 a2 a3 : Int} (hc : Ct G MX7_setCable (rmE 1) [rf G 38 0, .int (iI a0), .int (iI a1), .int (iI a2), .int (iI a3)] (hp m) (.inr iaE) (hp m1)) : CtW G ML_setCable ML_setCable_h (rmE 2) [rf G 38 0, .int (iI a0), .int (iI a1), .int (iI a2), .int (iI a3), rf G 49 0] (hp (m)) (.inl (some (.int (iI (2))))) (hp (m1)) := by
  refine x_entryW (by decide +kernel) mwL_setCable rfl (Nat.le_of_ble_eq_true rfl) ?_
  show X G ML_setCable (rmE 2) 0 [(0, rf G 38 0), (1, .int (iI a0)), (2, .int (iI a1)), (3, .int (iI a2)), (4, .int (iI a3)), (5, rf G 49 0)] [] (hp (m)) 0 0 (.inl (some (.int (iI (2))))) (hp (m1))
  refine x_aload (pc := 0) dL_setCable_0 5 rfl ?_
  refine x_iconst (pc := 2) dL_setCable_2 ?_
  refine x_aload_n (pc := 3) dL_setCable_3 0 rfl ?_
  refine x_iload_n (pc := 4) dL_setCable_4 1 rfl ?_
  refine x_iload_n (pc := 5) dL_setCable_5 2 rfl ?_
  refine x_iload_n (pc := 6) dL_setCable_6 3 rfl ?_
  refine x_iload (pc := 7) dL_setCable_7 4 rfl ?_
  refine x_callVC (pc := 9) _ dL_setCable_9 (hc) lkL_78 rfl rfl rfl rfl (mem_dom0 (by decide) (by decide)) (by decide) (Nat.le_of_ble_eq_true rfl) rfl [_] _ _ rfl (fun z hz => by cases List.mem_singleton.mp hz; exact ⟨by decide, clIO, rfl⟩) (by decide) (by decide) clIA (by decide) (fun q => ?_)
  refine x_astore (pc := 21) (lv' := [(6, _), (0, _), (1, _), (2, _), (3, _), (4, _), (5, _)]) dL_setCable_21 (by decide) rfl ?_
  refine x_iconst (pc := 23) dL_setCable_23 ?_
  exact y_iret (pc := 24) dL_setCable_24 rfl rfl rfl

theorem hq_addTrip {G : GG} {m m1 : Mem} {a0 a1 a2 : Int} {r : Int} (hr : inI r) (hc : Ct G MX7_addTrip (rmD 9) [rf G 38 0, .int (iI a0), .int (iI a1), .int (iI a2)] (hp m) (.inl (some (.int (iI (r))))) (hp m1)) : CtW G ML_addTrip ML_addTrip_h (rmD 10) [rf G 38 0, .int (iI a0), .int (iI a1), .int (iI a2), rf G 49 0] (hp (m)) (.inl (some (.int (iI (0))))) (hp (up3 m1 49 0 0 r)) := by
  refine x_entryW (by decide +kernel) mwL_addTrip rfl (Nat.le_of_ble_eq_true rfl) ?_
  show X G ML_addTrip (rmD 10) 0 [(0, rf G 38 0), (1, .int (iI a0)), (2, .int (iI a1)), (3, .int (iI a2)), (4, rf G 49 0)] [] (hp (m)) 0 0 (.inl (some (.int (iI (0))))) (hp (up3 m1 49 0 0 r))
  refine x_aload (pc := 0) dL_addTrip_0 4 rfl ?_
  refine x_iconst (pc := 2) dL_addTrip_2 ?_
  refine x_aload_n (pc := 3) dL_addTrip_3 0 rfl ?_
  refine x_iload_n (pc := 4) dL_addTrip_4 1 rfl ?_
  refine x_iload_n (pc := 5) dL_addTrip_5 2 rfl ?_
  refine x_iload_n (pc := 6) dL_addTrip_6 3 rfl ?_
  refine x_callV (pc := 7) _ dL_addTrip_7 (hc) lkL_82 rfl rfl rfl rfl (mem_dom0 (by decide) (by decide)) (by decide) (Nat.le_of_ble_eq_true rfl) rfl ?_
  refine x_i2l (pc := 10) dL_addTrip_10 hr ?_
  refine y_last (pc := 11) dL_addTrip_11 rfl (by decide) (by omega) ?_
  refine x_goto (pc := 12) 23 dL_addTrip_12 (by decide) ?_
  refine x_iconst (pc := 23) dL_addTrip_23 ?_
  exact y_iret (pc := 24) dL_addTrip_24 rfl rfl rfl

theorem hq_addTrip_ioE {G : GG} {m m1 : Mem} {a0 a1 a2 : Int} (hc : Ct G MX7_addTrip (rmE 1) [rf G 38 0, .int (iI a0), .int (iI a1), .int (iI a2)] (hp m) (.inr ioE) (hp m1)) : CtW G ML_addTrip ML_addTrip_h (rmE 2) [rf G 38 0, .int (iI a0), .int (iI a1), .int (iI a2), rf G 49 0] (hp (m)) (.inl (some (.int (iI (1))))) (hp (m1)) := by
  refine x_entryW (by decide +kernel) mwL_addTrip rfl (Nat.le_of_ble_eq_true rfl) ?_
  show X G ML_addTrip (rmE 2) 0 [(0, rf G 38 0), (1, .int (iI a0)), (2, .int (iI a1)), (3, .int (iI a2)), (4, rf G 49 0)] [] (hp (m)) 0 0 (.inl (some (.int (iI (1))))) (hp (m1))
  refine x_aload (pc := 0) dL_addTrip_0 4 rfl ?_
  refine x_iconst (pc := 2) dL_addTrip_2 ?_
  refine x_aload_n (pc := 3) dL_addTrip_3 0 rfl ?_
  refine x_iload_n (pc := 4) dL_addTrip_4 1 rfl ?_
  refine x_iload_n (pc := 5) dL_addTrip_5 2 rfl ?_
  refine x_iload_n (pc := 6) dL_addTrip_6 3 rfl ?_
  refine x_callVC (pc := 7) _ dL_addTrip_7 (hc) lkL_82 rfl rfl rfl rfl (mem_dom0 (by decide) (by decide)) (by decide) (Nat.le_of_ble_eq_true rfl) rfl [] _ _ rfl (fun z hz => nomatch hz) (by decide) (by decide) clIO (by decide) (fun q => ?_)
  refine x_astore (pc := 15) (lv' := [(5, _), (0, _), (1, _), (2, _), (3, _), (4, _)]) dL_addTrip_15 (by decide) rfl ?_
  refine x_iconst (pc := 17) dL_addTrip_17 ?_
  exact y_iret (pc := 18) dL_addTrip_18 rfl rfl rfl

theorem hq_addTrip_iaE {G : GG} {m m1 : Mem} {a0 a1 a2 : Int} (hc : Ct G MX7_addTrip (rmE 1) [rf G 38 0, .int (iI a0), .int (iI a1), .int (iI a2)] (hp m) (.inr iaE) (hp m1)) : CtW G ML_addTrip ML_addTrip_h (rmE 2) [rf G 38 0, .int (iI a0), .int (iI a1), .int (iI a2), rf G 49 0] (hp (m)) (.inl (some (.int (iI (2))))) (hp (m1)) := by
  refine x_entryW (by decide +kernel) mwL_addTrip rfl (Nat.le_of_ble_eq_true rfl) ?_
  show X G ML_addTrip (rmE 2) 0 [(0, rf G 38 0), (1, .int (iI a0)), (2, .int (iI a1)), (3, .int (iI a2)), (4, rf G 49 0)] [] (hp (m)) 0 0 (.inl (some (.int (iI (2))))) (hp (m1))
  refine x_aload (pc := 0) dL_addTrip_0 4 rfl ?_
  refine x_iconst (pc := 2) dL_addTrip_2 ?_
  refine x_aload_n (pc := 3) dL_addTrip_3 0 rfl ?_
  refine x_iload_n (pc := 4) dL_addTrip_4 1 rfl ?_
  refine x_iload_n (pc := 5) dL_addTrip_5 2 rfl ?_
  refine x_iload_n (pc := 6) dL_addTrip_6 3 rfl ?_
  refine x_callVC (pc := 7) _ dL_addTrip_7 (hc) lkL_82 rfl rfl rfl rfl (mem_dom0 (by decide) (by decide)) (by decide) (Nat.le_of_ble_eq_true rfl) rfl [_] _ _ rfl (fun z hz => by cases List.mem_singleton.mp hz; exact ⟨by decide, clIO, rfl⟩) (by decide) (by decide) clIA (by decide) (fun q => ?_)
  refine x_astore (pc := 19) (lv' := [(5, _), (0, _), (1, _), (2, _), (3, _), (4, _)]) dL_addTrip_19 (by decide) rfl ?_
  refine x_iconst (pc := 21) dL_addTrip_21 ?_
  exact y_iret (pc := 22) dL_addTrip_22 rfl rfl rfl

theorem hq_dropTrip {G : GG} {m m1 : Mem} {a0 : Int} {r : Int} (hr : inI r) (hc : Ct G MX7_dropTrip (rmD 9) [rf G 38 0, .int (iI a0)] (hp m) (.inl (some (.int (iI (r))))) (hp m1)) : CtW G ML_dropTrip ML_dropTrip_h (rmD 10) [rf G 38 0, .int (iI a0), rf G 49 0] (hp (m)) (.inl (some (.int (iI (0))))) (hp (up3 m1 49 0 0 r)) := by
  refine x_entryW (by decide +kernel) mwL_dropTrip rfl (Nat.le_of_ble_eq_true rfl) ?_
  show X G ML_dropTrip (rmD 10) 0 [(0, rf G 38 0), (1, .int (iI a0)), (2, rf G 49 0)] [] (hp (m)) 0 0 (.inl (some (.int (iI (0))))) (hp (up3 m1 49 0 0 r))
  refine x_aload_n (pc := 0) dL_dropTrip_0 2 rfl ?_
  refine x_iconst (pc := 1) dL_dropTrip_1 ?_
  refine x_aload_n (pc := 2) dL_dropTrip_2 0 rfl ?_
  refine x_iload_n (pc := 3) dL_dropTrip_3 1 rfl ?_
  refine x_callV (pc := 4) _ dL_dropTrip_4 (hc) lkL_85 rfl rfl rfl rfl (mem_dom0 (by decide) (by decide)) (by decide) (Nat.le_of_ble_eq_true rfl) rfl ?_
  refine x_i2l (pc := 7) dL_dropTrip_7 hr ?_
  refine y_last (pc := 8) dL_dropTrip_8 rfl (by decide) (by omega) ?_
  refine x_goto (pc := 9) 15 dL_dropTrip_9 (by decide) ?_
  refine x_iconst (pc := 15) dL_dropTrip_15 ?_
  exact y_iret (pc := 16) dL_dropTrip_16 rfl rfl rfl

theorem hq_dropTrip_ioE {G : GG} {m m1 : Mem} {a0 : Int} (hc : Ct G MX7_dropTrip (rmE 1) [rf G 38 0, .int (iI a0)] (hp m) (.inr ioE) (hp m1)) : CtW G ML_dropTrip ML_dropTrip_h (rmE 2) [rf G 38 0, .int (iI a0), rf G 49 0] (hp (m)) (.inl (some (.int (iI (1))))) (hp (m1)) := by
  refine x_entryW (by decide +kernel) mwL_dropTrip rfl (Nat.le_of_ble_eq_true rfl) ?_
  show X G ML_dropTrip (rmE 2) 0 [(0, rf G 38 0), (1, .int (iI a0)), (2, rf G 49 0)] [] (hp (m)) 0 0 (.inl (some (.int (iI (1))))) (hp (m1))
  refine x_aload_n (pc := 0) dL_dropTrip_0 2 rfl ?_
  refine x_iconst (pc := 1) dL_dropTrip_1 ?_
  refine x_aload_n (pc := 2) dL_dropTrip_2 0 rfl ?_
  refine x_iload_n (pc := 3) dL_dropTrip_3 1 rfl ?_
  refine x_callVC (pc := 4) _ dL_dropTrip_4 (hc) lkL_85 rfl rfl rfl rfl (mem_dom0 (by decide) (by decide)) (by decide) (Nat.le_of_ble_eq_true rfl) rfl [] _ _ rfl (fun z hz => nomatch hz) (by decide) (by decide) clIO (by decide) (fun q => ?_)
  refine x_astore_n (pc := 12) (lv' := [(3, _), (0, _), (1, _), (2, _)]) dL_dropTrip_12 rfl (by decide) rfl ?_
  refine x_iconst (pc := 13) dL_dropTrip_13 ?_
  exact y_iret (pc := 14) dL_dropTrip_14 rfl rfl rfl

theorem hq_run {G : GG} {m m1 : Mem} {a0 : Int} {r : Int} (hr : inI r) (hc : Ct G MX7_run (rmD 9) [rf G 38 0, .int (iI a0)] (hp m) (.inl (some (.int (iI (r))))) (hp m1)) : CtW G ML_run ML_run_h (rmD 10) [rf G 38 0, .int (iI a0), rf G 49 0] (hp (m)) (.inl (some (.int (iI (0))))) (hp (up3 m1 49 0 0 r)) := by
  refine x_entryW (by decide +kernel) mwL_run rfl (Nat.le_of_ble_eq_true rfl) ?_
  show X G ML_run (rmD 10) 0 [(0, rf G 38 0), (1, .int (iI a0)), (2, rf G 49 0)] [] (hp (m)) 0 0 (.inl (some (.int (iI (0))))) (hp (up3 m1 49 0 0 r))
  refine x_aload_n (pc := 0) dL_run_0 2 rfl ?_
  refine x_iconst (pc := 1) dL_run_1 ?_
  refine x_aload_n (pc := 2) dL_run_2 0 rfl ?_
  refine x_iload_n (pc := 3) dL_run_3 1 rfl ?_
  refine x_callV (pc := 4) _ dL_run_4 (hc) lkL_88 rfl rfl rfl rfl (mem_dom0 (by decide) (by decide)) (by decide) (Nat.le_of_ble_eq_true rfl) rfl ?_
  refine x_i2l (pc := 7) dL_run_7 hr ?_
  refine y_last (pc := 8) dL_run_8 rfl (by decide) (by omega) ?_
  refine x_goto (pc := 9) 15 dL_run_9 (by decide) ?_
  refine x_iconst (pc := 15) dL_run_15 ?_
  exact y_iret (pc := 16) dL_run_16 rfl rfl rfl

theorem hq_run_iaE {G : GG} {m m1 : Mem} {a0 : Int} (hc : Ct G MX7_run (rmE 1) [rf G 38 0, .int (iI a0)] (hp m) (.inr iaE) (hp m1)) : CtW G ML_run ML_run_h (rmE 2) [rf G 38 0, .int (iI a0), rf G 49 0] (hp (m)) (.inl (some (.int (iI (1))))) (hp (m1)) := by
  refine x_entryW (by decide +kernel) mwL_run rfl (Nat.le_of_ble_eq_true rfl) ?_
  show X G ML_run (rmE 2) 0 [(0, rf G 38 0), (1, .int (iI a0)), (2, rf G 49 0)] [] (hp (m)) 0 0 (.inl (some (.int (iI (1))))) (hp (m1))
  refine x_aload_n (pc := 0) dL_run_0 2 rfl ?_
  refine x_iconst (pc := 1) dL_run_1 ?_
  refine x_aload_n (pc := 2) dL_run_2 0 rfl ?_
  refine x_iload_n (pc := 3) dL_run_3 1 rfl ?_
  refine x_callVC (pc := 4) _ dL_run_4 (hc) lkL_88 rfl rfl rfl rfl (mem_dom0 (by decide) (by decide)) (by decide) (Nat.le_of_ble_eq_true rfl) rfl [] _ _ rfl (fun z hz => nomatch hz) (by decide) (by decide) clIA (by decide) (fun q => ?_)
  refine x_astore_n (pc := 12) (lv' := [(3, _), (0, _), (1, _), (2, _)]) dL_run_12 rfl (by decide) rfl ?_
  refine x_iconst (pc := 13) dL_run_13 ?_
  exact y_iret (pc := 14) dL_run_14 rfl rfl rfl

theorem hq_runToClosed {G : GG} {m m1 : Mem} {a0 a1 : Int} {r : Int} (hr : inI r) (hc : Ct G MX7_runToClosed (rmD 9) [rf G 38 0, .int (iI a0), .int (iI a1)] (hp m) (.inl (some (.int (iI (r))))) (hp m1)) : CtW G ML_runToClosed ML_runToClosed_h (rmD 10) [rf G 38 0, .int (iI a0), .int (iI a1), rf G 49 0] (hp (m)) (.inl (some (.int (iI (0))))) (hp (up3 m1 49 0 0 r)) := by
  refine x_entryW (by decide +kernel) mwL_runToClosed rfl (Nat.le_of_ble_eq_true rfl) ?_
  show X G ML_runToClosed (rmD 10) 0 [(0, rf G 38 0), (1, .int (iI a0)), (2, .int (iI a1)), (3, rf G 49 0)] [] (hp (m)) 0 0 (.inl (some (.int (iI (0))))) (hp (up3 m1 49 0 0 r))
  refine x_aload_n (pc := 0) dL_runToClosed_0 3 rfl ?_
  refine x_iconst (pc := 1) dL_runToClosed_1 ?_
  refine x_aload_n (pc := 2) dL_runToClosed_2 0 rfl ?_
  refine x_iload_n (pc := 3) dL_runToClosed_3 1 rfl ?_
  refine x_iload_n (pc := 4) dL_runToClosed_4 2 rfl ?_
  refine x_callV (pc := 5) _ dL_runToClosed_5 (hc) lkL_91 rfl rfl rfl rfl (mem_dom0 (by decide) (by decide)) (by decide) (Nat.le_of_ble_eq_true rfl) rfl ?_
  refine x_i2l (pc := 8) dL_runToClosed_8 hr ?_
  refine y_last (pc := 9) dL_runToClosed_9 rfl (by decide) (by omega) ?_
  refine x_goto (pc := 10) 21 dL_runToClosed_10 (by decide) ?_
  refine x_iconst (pc := 21) dL_runToClosed_21 ?_
  exact y_iret (pc := 22) dL_runToClosed_22 rfl rfl rfl

theorem hq_runToClosed_ioE {G : GG} {m m1 : Mem} {a0 a1 : Int} (hc : Ct G MX7_runToClosed (rmE 1) [rf G 38 0, .int (iI a0), .int (iI a1)] (hp m) (.inr ioE) (hp m1)) : CtW G ML_runToClosed ML_runToClosed_h (rmE 2) [rf G 38 0, .int (iI a0), .int (iI a1), rf G 49 0] (hp (m)) (.inl (some (.int (iI (1))))) (hp (m1)) := by
  refine x_entryW (by decide +kernel) mwL_runToClosed rfl (Nat.le_of_ble_eq_true rfl) ?_
  show X G ML_runToClosed (rmE 2) 0 [(0, rf G 38 0), (1, .int (iI a0)), (2, .int (iI a1)), (3, rf G 49 0)] [] (hp (m)) 0 0 (.inl (some (.int (iI (1))))) (hp (m1))
  refine x_aload_n (pc := 0) dL_runToClosed_0 3 rfl ?_
  refine x_iconst (pc := 1) dL_runToClosed_1 ?_
  refine x_aload_n (pc := 2) dL_runToClosed_2 0 rfl ?_
  refine x_iload_n (pc := 3) dL_runToClosed_3 1 rfl ?_
  refine x_iload_n (pc := 4) dL_runToClosed_4 2 rfl ?_
  refine x_callVC (pc := 5) _ dL_runToClosed_5 (hc) lkL_91 rfl rfl rfl rfl (mem_dom0 (by decide) (by decide)) (by decide) (Nat.le_of_ble_eq_true rfl) rfl [] _ _ rfl (fun z hz => nomatch hz) (by decide) (by decide) clIO (by decide) (fun q => ?_)
  refine x_astore (pc := 13) (lv' := [(4, _), (0, _), (1, _), (2, _), (3, _)]) dL_runToClosed_13 (by decide) rfl ?_
  refine x_iconst (pc := 15) dL_runToClosed_15 ?_
  exact y_iret (pc := 16) dL_runToClosed_16 rfl rfl rfl

theorem hq_runToClosed_iaE {G : GG} {m m1 : Mem} {a0 a1 : Int} (hc : Ct G MX7_runToClosed (rmE 1) [rf G 38 0, .int (iI a0), .int (iI a1)] (hp m) (.inr iaE) (hp m1)) : CtW G ML_runToClosed ML_runToClosed_h (rmE 2) [rf G 38 0, .int (iI a0), .int (iI a1), rf G 49 0] (hp (m)) (.inl (some (.int (iI (2))))) (hp (m1)) := by
  refine x_entryW (by decide +kernel) mwL_runToClosed rfl (Nat.le_of_ble_eq_true rfl) ?_
  show X G ML_runToClosed (rmE 2) 0 [(0, rf G 38 0), (1, .int (iI a0)), (2, .int (iI a1)), (3, rf G 49 0)] [] (hp (m)) 0 0 (.inl (some (.int (iI (2))))) (hp (m1))
  refine x_aload_n (pc := 0) dL_runToClosed_0 3 rfl ?_
  refine x_iconst (pc := 1) dL_runToClosed_1 ?_
  refine x_aload_n (pc := 2) dL_runToClosed_2 0 rfl ?_
  refine x_iload_n (pc := 3) dL_runToClosed_3 1 rfl ?_
  refine x_iload_n (pc := 4) dL_runToClosed_4 2 rfl ?_
  refine x_callVC (pc := 5) _ dL_runToClosed_5 (hc) lkL_91 rfl rfl rfl rfl (mem_dom0 (by decide) (by decide)) (by decide) (Nat.le_of_ble_eq_true rfl) rfl [_] _ _ rfl (fun z hz => by cases List.mem_singleton.mp hz; exact ⟨by decide, clIO, rfl⟩) (by decide) (by decide) clIA (by decide) (fun q => ?_)
  refine x_astore (pc := 17) (lv' := [(4, _), (0, _), (1, _), (2, _), (3, _)]) dL_runToClosed_17 (by decide) rfl ?_
  refine x_iconst (pc := 19) dL_runToClosed_19 ?_
  exact y_iret (pc := 20) dL_runToClosed_20 rfl rfl rfl

theorem hq_chargeIn {G : GG} {m m1 : Mem} {a0 a1 : Int} {r : Int} (hr : inI r) (hc : Ct G MX7_chargeIn (rmD 9) [rf G 38 0, .int (iI a0), .int (iI a1)] (hp m) (.inl (some (.int (iI (r))))) (hp m1)) : CtW G ML_chargeIn ML_chargeIn_h (rmD 10) [rf G 38 0, .int (iI a0), .int (iI a1), rf G 49 0] (hp (m)) (.inl (some (.int (iI (0))))) (hp (up3 m1 49 0 0 r)) := by
  refine x_entryW (by decide +kernel) mwL_chargeIn rfl (Nat.le_of_ble_eq_true rfl) ?_
  show X G ML_chargeIn (rmD 10) 0 [(0, rf G 38 0), (1, .int (iI a0)), (2, .int (iI a1)), (3, rf G 49 0)] [] (hp (m)) 0 0 (.inl (some (.int (iI (0))))) (hp (up3 m1 49 0 0 r))
  refine x_aload_n (pc := 0) dL_chargeIn_0 3 rfl ?_
  refine x_iconst (pc := 1) dL_chargeIn_1 ?_
  refine x_aload_n (pc := 2) dL_chargeIn_2 0 rfl ?_
  refine x_iload_n (pc := 3) dL_chargeIn_3 1 rfl ?_
  refine x_iload_n (pc := 4) dL_chargeIn_4 2 rfl ?_
  refine x_callV (pc := 5) _ dL_chargeIn_5 (hc) lkL_94 rfl rfl rfl rfl (mem_dom0 (by decide) (by decide)) (by decide) (Nat.le_of_ble_eq_true rfl) rfl ?_
  refine x_i2l (pc := 8) dL_chargeIn_8 hr ?_
  refine y_last (pc := 9) dL_chargeIn_9 rfl (by decide) (by omega) ?_
  refine x_goto (pc := 10) 21 dL_chargeIn_10 (by decide) ?_
  refine x_iconst (pc := 21) dL_chargeIn_21 ?_
  exact y_iret (pc := 22) dL_chargeIn_22 rfl rfl rfl

theorem hq_chargeIn_ioE {G : GG} {m m1 : Mem} {a0 a1 : Int} (hc : Ct G MX7_chargeIn (rmE 1) [rf G 38 0, .int (iI a0), .int (iI a1)] (hp m) (.inr ioE) (hp m1)) : CtW G ML_chargeIn ML_chargeIn_h (rmE 2) [rf G 38 0, .int (iI a0), .int (iI a1), rf G 49 0] (hp (m)) (.inl (some (.int (iI (1))))) (hp (m1)) := by
  refine x_entryW (by decide +kernel) mwL_chargeIn rfl (Nat.le_of_ble_eq_true rfl) ?_
  show X G ML_chargeIn (rmE 2) 0 [(0, rf G 38 0), (1, .int (iI a0)), (2, .int (iI a1)), (3, rf G 49 0)] [] (hp (m)) 0 0 (.inl (some (.int (iI (1))))) (hp (m1))
  refine x_aload_n (pc := 0) dL_chargeIn_0 3 rfl ?_
  refine x_iconst (pc := 1) dL_chargeIn_1 ?_
  refine x_aload_n (pc := 2) dL_chargeIn_2 0 rfl ?_
  refine x_iload_n (pc := 3) dL_chargeIn_3 1 rfl ?_
  refine x_iload_n (pc := 4) dL_chargeIn_4 2 rfl ?_
  refine x_callVC (pc := 5) _ dL_chargeIn_5 (hc) lkL_94 rfl rfl rfl rfl (mem_dom0 (by decide) (by decide)) (by decide) (Nat.le_of_ble_eq_true rfl) rfl [] _ _ rfl (fun z hz => nomatch hz) (by decide) (by decide) clIO (by decide) (fun q => ?_)
  refine x_astore (pc := 13) (lv' := [(4, _), (0, _), (1, _), (2, _), (3, _)]) dL_chargeIn_13 (by decide) rfl ?_
  refine x_iconst (pc := 15) dL_chargeIn_15 ?_
  exact y_iret (pc := 16) dL_chargeIn_16 rfl rfl rfl

theorem hq_chargeIn_iaE {G : GG} {m m1 : Mem} {a0 a1 : Int} (hc : Ct G MX7_chargeIn (rmE 1) [rf G 38 0, .int (iI a0), .int (iI a1)] (hp m) (.inr iaE) (hp m1)) : CtW G ML_chargeIn ML_chargeIn_h (rmE 2) [rf G 38 0, .int (iI a0), .int (iI a1), rf G 49 0] (hp (m)) (.inl (some (.int (iI (2))))) (hp (m1)) := by
  refine x_entryW (by decide +kernel) mwL_chargeIn rfl (Nat.le_of_ble_eq_true rfl) ?_
  show X G ML_chargeIn (rmE 2) 0 [(0, rf G 38 0), (1, .int (iI a0)), (2, .int (iI a1)), (3, rf G 49 0)] [] (hp (m)) 0 0 (.inl (some (.int (iI (2))))) (hp (m1))
  refine x_aload_n (pc := 0) dL_chargeIn_0 3 rfl ?_
  refine x_iconst (pc := 1) dL_chargeIn_1 ?_
  refine x_aload_n (pc := 2) dL_chargeIn_2 0 rfl ?_
  refine x_iload_n (pc := 3) dL_chargeIn_3 1 rfl ?_
  refine x_iload_n (pc := 4) dL_chargeIn_4 2 rfl ?_
  refine x_callVC (pc := 5) _ dL_chargeIn_5 (hc) lkL_94 rfl rfl rfl rfl (mem_dom0 (by decide) (by decide)) (by decide) (Nat.le_of_ble_eq_true rfl) rfl [_] _ _ rfl (fun z hz => by cases List.mem_singleton.mp hz; exact ⟨by decide, clIO, rfl⟩) (by decide) (by decide) clIA (by decide) (fun q => ?_)
  refine x_astore (pc := 17) (lv' := [(4, _), (0, _), (1, _), (2, _), (3, _)]) dL_chargeIn_17 (by decide) rfl ?_
  refine x_iconst (pc := 19) dL_chargeIn_19 ?_
  exact y_iret (pc := 20) dL_chargeIn_20 rfl rfl rfl

theorem hq_missIn {G : GG} {m m1 : Mem} {a0 : Int} {r : Int} (hr : inI r) (hc : Ct G MX7_missIn (rmD 9) [rf G 38 0, .int (iI a0)] (hp m) (.inl (some (.int (iI (r))))) (hp m1)) : CtW G ML_missIn ML_missIn_h (rmD 10) [rf G 38 0, .int (iI a0), rf G 49 0] (hp (m)) (.inl (some (.int (iI (0))))) (hp (up3 m1 49 0 0 r)) := by
  refine x_entryW (by decide +kernel) mwL_missIn rfl (Nat.le_of_ble_eq_true rfl) ?_
  show X G ML_missIn (rmD 10) 0 [(0, rf G 38 0), (1, .int (iI a0)), (2, rf G 49 0)] [] (hp (m)) 0 0 (.inl (some (.int (iI (0))))) (hp (up3 m1 49 0 0 r))
  refine x_aload_n (pc := 0) dL_missIn_0 2 rfl ?_
  refine x_iconst (pc := 1) dL_missIn_1 ?_
  refine x_aload_n (pc := 2) dL_missIn_2 0 rfl ?_
  refine x_iload_n (pc := 3) dL_missIn_3 1 rfl ?_
  refine x_callV (pc := 4) _ dL_missIn_4 (hc) lkL_97 rfl rfl rfl rfl (mem_dom0 (by decide) (by decide)) (by decide) (Nat.le_of_ble_eq_true rfl) rfl ?_
  refine x_i2l (pc := 7) dL_missIn_7 hr ?_
  refine y_last (pc := 8) dL_missIn_8 rfl (by decide) (by omega) ?_
  refine x_goto (pc := 9) 15 dL_missIn_9 (by decide) ?_
  refine x_iconst (pc := 15) dL_missIn_15 ?_
  exact y_iret (pc := 16) dL_missIn_16 rfl rfl rfl

theorem hq_missIn_ioE {G : GG} {m m1 : Mem} {a0 : Int} (hc : Ct G MX7_missIn (rmE 1) [rf G 38 0, .int (iI a0)] (hp m) (.inr ioE) (hp m1)) : CtW G ML_missIn ML_missIn_h (rmE 2) [rf G 38 0, .int (iI a0), rf G 49 0] (hp (m)) (.inl (some (.int (iI (1))))) (hp (m1)) := by
  refine x_entryW (by decide +kernel) mwL_missIn rfl (Nat.le_of_ble_eq_true rfl) ?_
  show X G ML_missIn (rmE 2) 0 [(0, rf G 38 0), (1, .int (iI a0)), (2, rf G 49 0)] [] (hp (m)) 0 0 (.inl (some (.int (iI (1))))) (hp (m1))
  refine x_aload_n (pc := 0) dL_missIn_0 2 rfl ?_
  refine x_iconst (pc := 1) dL_missIn_1 ?_
  refine x_aload_n (pc := 2) dL_missIn_2 0 rfl ?_
  refine x_iload_n (pc := 3) dL_missIn_3 1 rfl ?_
  refine x_callVC (pc := 4) _ dL_missIn_4 (hc) lkL_97 rfl rfl rfl rfl (mem_dom0 (by decide) (by decide)) (by decide) (Nat.le_of_ble_eq_true rfl) rfl [] _ _ rfl (fun z hz => nomatch hz) (by decide) (by decide) clIO (by decide) (fun q => ?_)
  refine x_astore_n (pc := 12) (lv' := [(3, _), (0, _), (1, _), (2, _)]) dL_missIn_12 rfl (by decide) rfl ?_
  refine x_iconst (pc := 13) dL_missIn_13 ?_
  exact y_iret (pc := 14) dL_missIn_14 rfl rfl rfl

theorem hq_endIn {G : GG} {m m1 : Mem} {a0 : Int} {r : Int} (hr : inI r) (hc : Ct G MX7_endIn (rmD 9) [rf G 38 0, .int (iI a0)] (hp m) (.inl (some (.int (iI (r))))) (hp m1)) : CtW G ML_endIn ML_endIn_h (rmD 10) [rf G 38 0, .int (iI a0), rf G 49 0] (hp (m)) (.inl (some (.int (iI (0))))) (hp (up3 m1 49 0 0 r)) := by
  refine x_entryW (by decide +kernel) mwL_endIn rfl (Nat.le_of_ble_eq_true rfl) ?_
  show X G ML_endIn (rmD 10) 0 [(0, rf G 38 0), (1, .int (iI a0)), (2, rf G 49 0)] [] (hp (m)) 0 0 (.inl (some (.int (iI (0))))) (hp (up3 m1 49 0 0 r))
  refine x_aload_n (pc := 0) dL_endIn_0 2 rfl ?_
  refine x_iconst (pc := 1) dL_endIn_1 ?_
  refine x_aload_n (pc := 2) dL_endIn_2 0 rfl ?_
  refine x_iload_n (pc := 3) dL_endIn_3 1 rfl ?_
  refine x_callV (pc := 4) _ dL_endIn_4 (hc) lkL_100 rfl rfl rfl rfl (mem_dom0 (by decide) (by decide)) (by decide) (Nat.le_of_ble_eq_true rfl) rfl ?_
  refine x_i2l (pc := 7) dL_endIn_7 hr ?_
  refine y_last (pc := 8) dL_endIn_8 rfl (by decide) (by omega) ?_
  refine x_goto (pc := 9) 15 dL_endIn_9 (by decide) ?_
  refine x_iconst (pc := 15) dL_endIn_15 ?_
  exact y_iret (pc := 16) dL_endIn_16 rfl rfl rfl

theorem hq_endIn_ioE {G : GG} {m m1 : Mem} {a0 : Int} (hc : Ct G MX7_endIn (rmE 1) [rf G 38 0, .int (iI a0)] (hp m) (.inr ioE) (hp m1)) : CtW G ML_endIn ML_endIn_h (rmE 2) [rf G 38 0, .int (iI a0), rf G 49 0] (hp (m)) (.inl (some (.int (iI (1))))) (hp (m1)) := by
  refine x_entryW (by decide +kernel) mwL_endIn rfl (Nat.le_of_ble_eq_true rfl) ?_
  show X G ML_endIn (rmE 2) 0 [(0, rf G 38 0), (1, .int (iI a0)), (2, rf G 49 0)] [] (hp (m)) 0 0 (.inl (some (.int (iI (1))))) (hp (m1))
  refine x_aload_n (pc := 0) dL_endIn_0 2 rfl ?_
  refine x_iconst (pc := 1) dL_endIn_1 ?_
  refine x_aload_n (pc := 2) dL_endIn_2 0 rfl ?_
  refine x_iload_n (pc := 3) dL_endIn_3 1 rfl ?_
  refine x_callVC (pc := 4) _ dL_endIn_4 (hc) lkL_100 rfl rfl rfl rfl (mem_dom0 (by decide) (by decide)) (by decide) (Nat.le_of_ble_eq_true rfl) rfl [] _ _ rfl (fun z hz => nomatch hz) (by decide) (by decide) clIO (by decide) (fun q => ?_)
  refine x_astore_n (pc := 12) (lv' := [(3, _), (0, _), (1, _), (2, _)]) dL_endIn_12 rfl (by decide) rfl ?_
  refine x_iconst (pc := 13) dL_endIn_13 ?_
  exact y_iret (pc := 14) dL_endIn_14 rfl rfl rfl

theorem hq_endAs {G : GG} {m m1 : Mem} {a0 : Int} {r : Int} (hr : inI r) (hc : Ct G MX7_endAs (rmD 9) [rf G 38 0, .int (iI a0)] (hp m) (.inl (some (.int (iI (r))))) (hp m1)) : CtW G ML_endAs ML_endAs_h (rmD 10) [rf G 38 0, .int (iI a0), rf G 49 0] (hp (m)) (.inl (some (.int (iI (0))))) (hp (up3 m1 49 0 0 r)) := by
  refine x_entryW (by decide +kernel) mwL_endAs rfl (Nat.le_of_ble_eq_true rfl) ?_
  show X G ML_endAs (rmD 10) 0 [(0, rf G 38 0), (1, .int (iI a0)), (2, rf G 49 0)] [] (hp (m)) 0 0 (.inl (some (.int (iI (0))))) (hp (up3 m1 49 0 0 r))
  refine x_aload_n (pc := 0) dL_endAs_0 2 rfl ?_
  refine x_iconst (pc := 1) dL_endAs_1 ?_
  refine x_aload_n (pc := 2) dL_endAs_2 0 rfl ?_
  refine x_iload_n (pc := 3) dL_endAs_3 1 rfl ?_
  refine x_callV (pc := 4) _ dL_endAs_4 (hc) lkL_103 rfl rfl rfl rfl (mem_dom0 (by decide) (by decide)) (by decide) (Nat.le_of_ble_eq_true rfl) rfl ?_
  refine x_i2l (pc := 7) dL_endAs_7 hr ?_
  refine y_last (pc := 8) dL_endAs_8 rfl (by decide) (by omega) ?_
  refine x_goto (pc := 9) 15 dL_endAs_9 (by decide) ?_
  refine x_iconst (pc := 15) dL_endAs_15 ?_
  exact y_iret (pc := 16) dL_endAs_16 rfl rfl rfl

theorem hq_endAs_ioE {G : GG} {m m1 : Mem} {a0 : Int} (hc : Ct G MX7_endAs (rmE 1) [rf G 38 0, .int (iI a0)] (hp m) (.inr ioE) (hp m1)) : CtW G ML_endAs ML_endAs_h (rmE 2) [rf G 38 0, .int (iI a0), rf G 49 0] (hp (m)) (.inl (some (.int (iI (1))))) (hp (m1)) := by
  refine x_entryW (by decide +kernel) mwL_endAs rfl (Nat.le_of_ble_eq_true rfl) ?_
  show X G ML_endAs (rmE 2) 0 [(0, rf G 38 0), (1, .int (iI a0)), (2, rf G 49 0)] [] (hp (m)) 0 0 (.inl (some (.int (iI (1))))) (hp (m1))
  refine x_aload_n (pc := 0) dL_endAs_0 2 rfl ?_
  refine x_iconst (pc := 1) dL_endAs_1 ?_
  refine x_aload_n (pc := 2) dL_endAs_2 0 rfl ?_
  refine x_iload_n (pc := 3) dL_endAs_3 1 rfl ?_
  refine x_callVC (pc := 4) _ dL_endAs_4 (hc) lkL_103 rfl rfl rfl rfl (mem_dom0 (by decide) (by decide)) (by decide) (Nat.le_of_ble_eq_true rfl) rfl [] _ _ rfl (fun z hz => nomatch hz) (by decide) (by decide) clIO (by decide) (fun q => ?_)
  refine x_astore_n (pc := 12) (lv' := [(3, _), (0, _), (1, _), (2, _)]) dL_endAs_12 rfl (by decide) rfl ?_
  refine x_iconst (pc := 13) dL_endAs_13 ?_
  exact y_iret (pc := 14) dL_endAs_14 rfl rfl rfl

theorem hq_lacks {G : GG} {m m1 : Mem} {a0 : Int} {r : Int} (hr : inI r) (hc : Ct G MX7_lacks (rmD 9) [rf G 38 0, .int (iI a0)] (hp m) (.inl (some (.int (iI (r))))) (hp m1)) : CtW G ML_lacks ML_lacks_h (rmD 10) [rf G 38 0, .int (iI a0), rf G 49 0] (hp (m)) (.inl (some (.int (iI (0))))) (hp (up3 m1 49 0 0 r)) := by
  refine x_entryW (by decide +kernel) mwL_lacks rfl (Nat.le_of_ble_eq_true rfl) ?_
  show X G ML_lacks (rmD 10) 0 [(0, rf G 38 0), (1, .int (iI a0)), (2, rf G 49 0)] [] (hp (m)) 0 0 (.inl (some (.int (iI (0))))) (hp (up3 m1 49 0 0 r))
  refine x_aload_n (pc := 0) dL_lacks_0 2 rfl ?_
  refine x_iconst (pc := 1) dL_lacks_1 ?_
  refine x_aload_n (pc := 2) dL_lacks_2 0 rfl ?_
  refine x_iload_n (pc := 3) dL_lacks_3 1 rfl ?_
  refine x_callV (pc := 4) _ dL_lacks_4 (hc) lkL_106 rfl rfl rfl rfl (mem_dom0 (by decide) (by decide)) (by decide) (Nat.le_of_ble_eq_true rfl) rfl ?_
  refine x_i2l (pc := 7) dL_lacks_7 hr ?_
  refine y_last (pc := 8) dL_lacks_8 rfl (by decide) (by omega) ?_
  refine x_goto (pc := 9) 15 dL_lacks_9 (by decide) ?_
  refine x_iconst (pc := 15) dL_lacks_15 ?_
  exact y_iret (pc := 16) dL_lacks_16 rfl rfl rfl

theorem hq_lacks_ioE {G : GG} {m m1 : Mem} {a0 : Int} (hc : Ct G MX7_lacks (rmE 1) [rf G 38 0, .int (iI a0)] (hp m) (.inr ioE) (hp m1)) : CtW G ML_lacks ML_lacks_h (rmE 2) [rf G 38 0, .int (iI a0), rf G 49 0] (hp (m)) (.inl (some (.int (iI (1))))) (hp (m1)) := by
  refine x_entryW (by decide +kernel) mwL_lacks rfl (Nat.le_of_ble_eq_true rfl) ?_
  show X G ML_lacks (rmE 2) 0 [(0, rf G 38 0), (1, .int (iI a0)), (2, rf G 49 0)] [] (hp (m)) 0 0 (.inl (some (.int (iI (1))))) (hp (m1))
  refine x_aload_n (pc := 0) dL_lacks_0 2 rfl ?_
  refine x_iconst (pc := 1) dL_lacks_1 ?_
  refine x_aload_n (pc := 2) dL_lacks_2 0 rfl ?_
  refine x_iload_n (pc := 3) dL_lacks_3 1 rfl ?_
  refine x_callVC (pc := 4) _ dL_lacks_4 (hc) lkL_106 rfl rfl rfl rfl (mem_dom0 (by decide) (by decide)) (by decide) (Nat.le_of_ble_eq_true rfl) rfl [] _ _ rfl (fun z hz => nomatch hz) (by decide) (by decide) clIO (by decide) (fun q => ?_)
  refine x_astore_n (pc := 12) (lv' := [(3, _), (0, _), (1, _), (2, _)]) dL_lacks_12 rfl (by decide) rfl ?_
  refine x_iconst (pc := 13) dL_lacks_13 ?_
  exact y_iret (pc := 14) dL_lacks_14 rfl rfl rfl

theorem hq_isSafe {G : GG} {m m1 : Mem} {a0 a1 a2 : Int} {b : Prop} [Decidable b] (hc : Ct G MX7_isSafe (rmD 9) [rf G 38 0, .int (iI a0), .int (iI a1), .int (iI a2)] (hp m) (.inl (some (.int (iI (if b then 1 else 0))))) (hp m1)) : CtW G ML_isSafe ML_isSafe_h (rmD 10) [rf G 38 0, .int (iI a0), .int (iI a1), .int (iI a2), rf G 49 0] (hp (m)) (.inl (some (.int (iI (0))))) (hp (up3 m1 49 0 0 (if b then 1 else 0))) := by
  refine x_entryW (by decide +kernel) mwL_isSafe rfl (Nat.le_of_ble_eq_true rfl) ?_
  show X G ML_isSafe (rmD 10) 0 [(0, rf G 38 0), (1, .int (iI a0)), (2, .int (iI a1)), (3, .int (iI a2)), (4, rf G 49 0)] [] (hp (m)) 0 0 (.inl (some (.int (iI (0))))) (hp (up3 m1 49 0 0 (if b then 1 else 0)))
  refine x_aload (pc := 0) dL_isSafe_0 4 rfl ?_
  refine x_iconst (pc := 2) dL_isSafe_2 ?_
  refine x_aload_n (pc := 3) dL_isSafe_3 0 rfl ?_
  refine x_iload_n (pc := 4) dL_isSafe_4 1 rfl ?_
  refine x_iload_n (pc := 5) dL_isSafe_5 2 rfl ?_
  refine x_iload_n (pc := 6) dL_isSafe_6 3 rfl ?_
  refine x_callV (pc := 7) _ dL_isSafe_7 (hc) lkL_109 rfl rfl rfl rfl (mem_dom0 (by decide) (by decide)) (by decide) (Nat.le_of_ble_eq_true rfl) rfl ?_
  refine x_ifb_eq (pc := 10) 17 dL_isSafe_10 (by decide) (fun c_10 => ?_) (fun c_10 => ?_)
  · refine x_lconst (pc := 17) (z := 0) dL_isSafe_17 (by decide) ?_
    refine y_last (pc := 18) dL_isSafe_18 rfl (by decide) (by omega) ?_
    refine x_goto (pc := 19) 30 dL_isSafe_19 (by decide) ?_
    refine x_iconst (pc := 30) dL_isSafe_30 ?_
    exact y_iret (pc := 31) dL_isSafe_31 rfl rfl (by rw [if_neg c_10])
  · refine x_lconst (pc := 13) (z := 1) dL_isSafe_13 (by decide) ?_
    refine x_goto (pc := 14) 18 dL_isSafe_14 (by decide) ?_
    refine y_last (pc := 18) dL_isSafe_18 rfl (by decide) (by omega) ?_
    refine x_goto (pc := 19) 30 dL_isSafe_19 (by decide) ?_
    refine x_iconst (pc := 30) dL_isSafe_30 ?_
    exact y_iret (pc := 31) dL_isSafe_31 rfl rfl (by rw [if_pos c_10])

theorem hq_isSafe_ioE {G : GG} {m m1 : Mem} {a0 a1 a2 : Int} (hc : Ct G MX7_isSafe (rmE 1) [rf G 38 0, .int (iI a0), .int (iI a1), .int (iI a2)] (hp m) (.inr ioE) (hp m1)) : CtW G ML_isSafe ML_isSafe_h (rmE 2) [rf G 38 0, .int (iI a0), .int (iI a1), .int (iI a2), rf G 49 0] (hp (m)) (.inl (some (.int (iI (1))))) (hp (m1)) := by
  refine x_entryW (by decide +kernel) mwL_isSafe rfl (Nat.le_of_ble_eq_true rfl) ?_
  show X G ML_isSafe (rmE 2) 0 [(0, rf G 38 0), (1, .int (iI a0)), (2, .int (iI a1)), (3, .int (iI a2)), (4, rf G 49 0)] [] (hp (m)) 0 0 (.inl (some (.int (iI (1))))) (hp (m1))
  refine x_aload (pc := 0) dL_isSafe_0 4 rfl ?_
  refine x_iconst (pc := 2) dL_isSafe_2 ?_
  refine x_aload_n (pc := 3) dL_isSafe_3 0 rfl ?_
  refine x_iload_n (pc := 4) dL_isSafe_4 1 rfl ?_
  refine x_iload_n (pc := 5) dL_isSafe_5 2 rfl ?_
  refine x_iload_n (pc := 6) dL_isSafe_6 3 rfl ?_
  refine x_callVC (pc := 7) _ dL_isSafe_7 (hc) lkL_109 rfl rfl rfl rfl (mem_dom0 (by decide) (by decide)) (by decide) (Nat.le_of_ble_eq_true rfl) rfl [] _ _ rfl (fun z hz => nomatch hz) (by decide) (by decide) clIO (by decide) (fun q => ?_)
  refine x_astore (pc := 22) (lv' := [(5, _), (0, _), (1, _), (2, _), (3, _), (4, _)]) dL_isSafe_22 (by decide) rfl ?_
  refine x_iconst (pc := 24) dL_isSafe_24 ?_
  exact y_iret (pc := 25) dL_isSafe_25 rfl rfl rfl

theorem hq_isSafe_iaE {G : GG} {m m1 : Mem} {a0 a1 a2 : Int} (hc : Ct G MX7_isSafe (rmE 1) [rf G 38 0, .int (iI a0), .int (iI a1), .int (iI a2)] (hp m) (.inr iaE) (hp m1)) : CtW G ML_isSafe ML_isSafe_h (rmE 2) [rf G 38 0, .int (iI a0), .int (iI a1), .int (iI a2), rf G 49 0] (hp (m)) (.inl (some (.int (iI (2))))) (hp (m1)) := by
  refine x_entryW (by decide +kernel) mwL_isSafe rfl (Nat.le_of_ble_eq_true rfl) ?_
  show X G ML_isSafe (rmE 2) 0 [(0, rf G 38 0), (1, .int (iI a0)), (2, .int (iI a1)), (3, .int (iI a2)), (4, rf G 49 0)] [] (hp (m)) 0 0 (.inl (some (.int (iI (2))))) (hp (m1))
  refine x_aload (pc := 0) dL_isSafe_0 4 rfl ?_
  refine x_iconst (pc := 2) dL_isSafe_2 ?_
  refine x_aload_n (pc := 3) dL_isSafe_3 0 rfl ?_
  refine x_iload_n (pc := 4) dL_isSafe_4 1 rfl ?_
  refine x_iload_n (pc := 5) dL_isSafe_5 2 rfl ?_
  refine x_iload_n (pc := 6) dL_isSafe_6 3 rfl ?_
  refine x_callVC (pc := 7) _ dL_isSafe_7 (hc) lkL_109 rfl rfl rfl rfl (mem_dom0 (by decide) (by decide)) (by decide) (Nat.le_of_ble_eq_true rfl) rfl [_] _ _ rfl (fun z hz => by cases List.mem_singleton.mp hz; exact ⟨by decide, clIO, rfl⟩) (by decide) (by decide) clIA (by decide) (fun q => ?_)
  refine x_astore (pc := 26) (lv' := [(5, _), (0, _), (1, _), (2, _), (3, _), (4, _)]) dL_isSafe_26 (by decide) rfl ?_
  refine x_iconst (pc := 28) dL_isSafe_28 ?_
  exact y_iret (pc := 29) dL_isSafe_29 rfl rfl rfl

theorem hq_wearIn {G : GG} {m m1 : Mem} {a0 a1 : Int} {r : Int} (hr : inI r) (hc : Ct G MX7_wearIn (rmD 9) [rf G 38 0, .int (iI a0), .int (iI a1)] (hp m) (.inl (some (.int (iI (r))))) (hp m1)) : CtW G ML_wearIn ML_wearIn_h (rmD 10) [rf G 38 0, .int (iI a0), .int (iI a1), rf G 49 0] (hp (m)) (.inl (some (.int (iI (0))))) (hp (up3 m1 49 0 0 r)) := by
  refine x_entryW (by decide +kernel) mwL_wearIn rfl (Nat.le_of_ble_eq_true rfl) ?_
  show X G ML_wearIn (rmD 10) 0 [(0, rf G 38 0), (1, .int (iI a0)), (2, .int (iI a1)), (3, rf G 49 0)] [] (hp (m)) 0 0 (.inl (some (.int (iI (0))))) (hp (up3 m1 49 0 0 r))
  refine x_aload_n (pc := 0) dL_wearIn_0 3 rfl ?_
  refine x_iconst (pc := 1) dL_wearIn_1 ?_
  refine x_aload_n (pc := 2) dL_wearIn_2 0 rfl ?_
  refine x_iload_n (pc := 3) dL_wearIn_3 1 rfl ?_
  refine x_iload_n (pc := 4) dL_wearIn_4 2 rfl ?_
  refine x_callV (pc := 5) _ dL_wearIn_5 (hc) lkL_113 rfl rfl rfl rfl (mem_dom0 (by decide) (by decide)) (by decide) (Nat.le_of_ble_eq_true rfl) rfl ?_
  refine x_i2l (pc := 8) dL_wearIn_8 hr ?_
  refine y_last (pc := 9) dL_wearIn_9 rfl (by decide) (by omega) ?_
  refine x_goto (pc := 10) 21 dL_wearIn_10 (by decide) ?_
  refine x_iconst (pc := 21) dL_wearIn_21 ?_
  exact y_iret (pc := 22) dL_wearIn_22 rfl rfl rfl

theorem hq_wearIn_ioE {G : GG} {m m1 : Mem} {a0 a1 : Int} (hc : Ct G MX7_wearIn (rmE 1) [rf G 38 0, .int (iI a0), .int (iI a1)] (hp m) (.inr ioE) (hp m1)) : CtW G ML_wearIn ML_wearIn_h (rmE 2) [rf G 38 0, .int (iI a0), .int (iI a1), rf G 49 0] (hp (m)) (.inl (some (.int (iI (1))))) (hp (m1)) := by
  refine x_entryW (by decide +kernel) mwL_wearIn rfl (Nat.le_of_ble_eq_true rfl) ?_
  show X G ML_wearIn (rmE 2) 0 [(0, rf G 38 0), (1, .int (iI a0)), (2, .int (iI a1)), (3, rf G 49 0)] [] (hp (m)) 0 0 (.inl (some (.int (iI (1))))) (hp (m1))
  refine x_aload_n (pc := 0) dL_wearIn_0 3 rfl ?_
  refine x_iconst (pc := 1) dL_wearIn_1 ?_
  refine x_aload_n (pc := 2) dL_wearIn_2 0 rfl ?_
  refine x_iload_n (pc := 3) dL_wearIn_3 1 rfl ?_
  refine x_iload_n (pc := 4) dL_wearIn_4 2 rfl ?_
  refine x_callVC (pc := 5) _ dL_wearIn_5 (hc) lkL_113 rfl rfl rfl rfl (mem_dom0 (by decide) (by decide)) (by decide) (Nat.le_of_ble_eq_true rfl) rfl [] _ _ rfl (fun z hz => nomatch hz) (by decide) (by decide) clIO (by decide) (fun q => ?_)
  refine x_astore (pc := 13) (lv' := [(4, _), (0, _), (1, _), (2, _), (3, _)]) dL_wearIn_13 (by decide) rfl ?_
  refine x_iconst (pc := 15) dL_wearIn_15 ?_
  exact y_iret (pc := 16) dL_wearIn_16 rfl rfl rfl

theorem hq_wearIn_iaE {G : GG} {m m1 : Mem} {a0 a1 : Int} (hc : Ct G MX7_wearIn (rmE 1) [rf G 38 0, .int (iI a0), .int (iI a1)] (hp m) (.inr iaE) (hp m1)) : CtW G ML_wearIn ML_wearIn_h (rmE 2) [rf G 38 0, .int (iI a0), .int (iI a1), rf G 49 0] (hp (m)) (.inl (some (.int (iI (2))))) (hp (m1)) := by
  refine x_entryW (by decide +kernel) mwL_wearIn rfl (Nat.le_of_ble_eq_true rfl) ?_
  show X G ML_wearIn (rmE 2) 0 [(0, rf G 38 0), (1, .int (iI a0)), (2, .int (iI a1)), (3, rf G 49 0)] [] (hp (m)) 0 0 (.inl (some (.int (iI (2))))) (hp (m1))
  refine x_aload_n (pc := 0) dL_wearIn_0 3 rfl ?_
  refine x_iconst (pc := 1) dL_wearIn_1 ?_
  refine x_aload_n (pc := 2) dL_wearIn_2 0 rfl ?_
  refine x_iload_n (pc := 3) dL_wearIn_3 1 rfl ?_
  refine x_iload_n (pc := 4) dL_wearIn_4 2 rfl ?_
  refine x_callVC (pc := 5) _ dL_wearIn_5 (hc) lkL_113 rfl rfl rfl rfl (mem_dom0 (by decide) (by decide)) (by decide) (Nat.le_of_ble_eq_true rfl) rfl [_] _ _ rfl (fun z hz => by cases List.mem_singleton.mp hz; exact ⟨by decide, clIO, rfl⟩) (by decide) (by decide) clIA (by decide) (fun q => ?_)
  refine x_astore (pc := 17) (lv' := [(4, _), (0, _), (1, _), (2, _), (3, _)]) dL_wearIn_17 (by decide) rfl ?_
  refine x_iconst (pc := 19) dL_wearIn_19 ?_
  exact y_iret (pc := 20) dL_wearIn_20 rfl rfl rfl

theorem hq_owes {G : GG} {m m1 : Mem} {a0 : Int} {r : Int} (hr : inI r) (hc : Ct G MX7_owes (rmD 9) [rf G 38 0, .int (iI a0)] (hp m) (.inl (some (.int (iI (r))))) (hp m1)) : CtW G ML_owes ML_owes_h (rmD 10) [rf G 38 0, .int (iI a0), rf G 49 0] (hp (m)) (.inl (some (.int (iI (0))))) (hp (up3 m1 49 0 0 r)) := by
  refine x_entryW (by decide +kernel) mwL_owes rfl (Nat.le_of_ble_eq_true rfl) ?_
  show X G ML_owes (rmD 10) 0 [(0, rf G 38 0), (1, .int (iI a0)), (2, rf G 49 0)] [] (hp (m)) 0 0 (.inl (some (.int (iI (0))))) (hp (up3 m1 49 0 0 r))
  refine x_aload_n (pc := 0) dL_owes_0 2 rfl ?_
  refine x_iconst (pc := 1) dL_owes_1 ?_
  refine x_aload_n (pc := 2) dL_owes_2 0 rfl ?_
  refine x_iload_n (pc := 3) dL_owes_3 1 rfl ?_
  refine x_callV (pc := 4) _ dL_owes_4 (hc) lkL_116 rfl rfl rfl rfl (mem_dom0 (by decide) (by decide)) (by decide) (Nat.le_of_ble_eq_true rfl) rfl ?_
  refine x_i2l (pc := 7) dL_owes_7 hr ?_
  refine y_last (pc := 8) dL_owes_8 rfl (by decide) (by omega) ?_
  refine x_goto (pc := 9) 15 dL_owes_9 (by decide) ?_
  refine x_iconst (pc := 15) dL_owes_15 ?_
  exact y_iret (pc := 16) dL_owes_16 rfl rfl rfl

theorem hq_owes_ioE {G : GG} {m m1 : Mem} {a0 : Int} (hc : Ct G MX7_owes (rmE 1) [rf G 38 0, .int (iI a0)] (hp m) (.inr ioE) (hp m1)) : CtW G ML_owes ML_owes_h (rmE 2) [rf G 38 0, .int (iI a0), rf G 49 0] (hp (m)) (.inl (some (.int (iI (1))))) (hp (m1)) := by
  refine x_entryW (by decide +kernel) mwL_owes rfl (Nat.le_of_ble_eq_true rfl) ?_
  show X G ML_owes (rmE 2) 0 [(0, rf G 38 0), (1, .int (iI a0)), (2, rf G 49 0)] [] (hp (m)) 0 0 (.inl (some (.int (iI (1))))) (hp (m1))
  refine x_aload_n (pc := 0) dL_owes_0 2 rfl ?_
  refine x_iconst (pc := 1) dL_owes_1 ?_
  refine x_aload_n (pc := 2) dL_owes_2 0 rfl ?_
  refine x_iload_n (pc := 3) dL_owes_3 1 rfl ?_
  refine x_callVC (pc := 4) _ dL_owes_4 (hc) lkL_116 rfl rfl rfl rfl (mem_dom0 (by decide) (by decide)) (by decide) (Nat.le_of_ble_eq_true rfl) rfl [] _ _ rfl (fun z hz => nomatch hz) (by decide) (by decide) clIO (by decide) (fun q => ?_)
  refine x_astore_n (pc := 12) (lv' := [(3, _), (0, _), (1, _), (2, _)]) dL_owes_12 rfl (by decide) rfl ?_
  refine x_iconst (pc := 13) dL_owes_13 ?_
  exact y_iret (pc := 14) dL_owes_14 rfl rfl rfl

theorem hq_isOwed {G : GG} {m m1 : Mem} {a0 : Int} {r : Int} (hr : inI r) (hc : Ct G MX7_isOwed (rmD 9) [rf G 38 0, .int (iI a0)] (hp m) (.inl (some (.int (iI (r))))) (hp m1)) : CtW G ML_isOwed ML_isOwed_h (rmD 10) [rf G 38 0, .int (iI a0), rf G 49 0] (hp (m)) (.inl (some (.int (iI (0))))) (hp (up3 m1 49 0 0 r)) := by
  refine x_entryW (by decide +kernel) mwL_isOwed rfl (Nat.le_of_ble_eq_true rfl) ?_
  show X G ML_isOwed (rmD 10) 0 [(0, rf G 38 0), (1, .int (iI a0)), (2, rf G 49 0)] [] (hp (m)) 0 0 (.inl (some (.int (iI (0))))) (hp (up3 m1 49 0 0 r))
  refine x_aload_n (pc := 0) dL_isOwed_0 2 rfl ?_
  refine x_iconst (pc := 1) dL_isOwed_1 ?_
  refine x_aload_n (pc := 2) dL_isOwed_2 0 rfl ?_
  refine x_iload_n (pc := 3) dL_isOwed_3 1 rfl ?_
  refine x_callV (pc := 4) _ dL_isOwed_4 (hc) lkL_119 rfl rfl rfl rfl (mem_dom0 (by decide) (by decide)) (by decide) (Nat.le_of_ble_eq_true rfl) rfl ?_
  refine x_i2l (pc := 7) dL_isOwed_7 hr ?_
  refine y_last (pc := 8) dL_isOwed_8 rfl (by decide) (by omega) ?_
  refine x_goto (pc := 9) 15 dL_isOwed_9 (by decide) ?_
  refine x_iconst (pc := 15) dL_isOwed_15 ?_
  exact y_iret (pc := 16) dL_isOwed_16 rfl rfl rfl

theorem hq_isOwed_ioE {G : GG} {m m1 : Mem} {a0 : Int} (hc : Ct G MX7_isOwed (rmE 1) [rf G 38 0, .int (iI a0)] (hp m) (.inr ioE) (hp m1)) : CtW G ML_isOwed ML_isOwed_h (rmE 2) [rf G 38 0, .int (iI a0), rf G 49 0] (hp (m)) (.inl (some (.int (iI (1))))) (hp (m1)) := by
  refine x_entryW (by decide +kernel) mwL_isOwed rfl (Nat.le_of_ble_eq_true rfl) ?_
  show X G ML_isOwed (rmE 2) 0 [(0, rf G 38 0), (1, .int (iI a0)), (2, rf G 49 0)] [] (hp (m)) 0 0 (.inl (some (.int (iI (1))))) (hp (m1))
  refine x_aload_n (pc := 0) dL_isOwed_0 2 rfl ?_
  refine x_iconst (pc := 1) dL_isOwed_1 ?_
  refine x_aload_n (pc := 2) dL_isOwed_2 0 rfl ?_
  refine x_iload_n (pc := 3) dL_isOwed_3 1 rfl ?_
  refine x_callVC (pc := 4) _ dL_isOwed_4 (hc) lkL_119 rfl rfl rfl rfl (mem_dom0 (by decide) (by decide)) (by decide) (Nat.le_of_ble_eq_true rfl) rfl [] _ _ rfl (fun z hz => nomatch hz) (by decide) (by decide) clIO (by decide) (fun q => ?_)
  refine x_astore_n (pc := 12) (lv' := [(3, _), (0, _), (1, _), (2, _)]) dL_isOwed_12 rfl (by decide) rfl ?_
  refine x_iconst (pc := 13) dL_isOwed_13 ?_
  exact y_iret (pc := 14) dL_isOwed_14 rfl rfl rfl

theorem hq_saveSnapshot {G : GG} {m m1 : Mem} {a0 : Int} {r : Int} (hr : inI r) (hc : Ct G MX7_saveSnapshot (rmD 9) [rf G 38 0, .int (iI a0)] (hp m) (.inl (some (.int (iI (r))))) (hp m1)) : CtW G ML_saveSnapshot ML_saveSnapshot_h (rmD 10) [rf G 38 0, .int (iI a0), rf G 49 0] (hp (m)) (.inl (some (.int (iI (0))))) (hp (up3 m1 49 0 0 r)) := by
  refine x_entryW (by decide +kernel) mwL_saveSnapshot rfl (Nat.le_of_ble_eq_true rfl) ?_
  show X G ML_saveSnapshot (rmD 10) 0 [(0, rf G 38 0), (1, .int (iI a0)), (2, rf G 49 0)] [] (hp (m)) 0 0 (.inl (some (.int (iI (0))))) (hp (up3 m1 49 0 0 r))
  refine x_aload_n (pc := 0) dL_saveSnapshot_0 2 rfl ?_
  refine x_iconst (pc := 1) dL_saveSnapshot_1 ?_
  refine x_aload_n (pc := 2) dL_saveSnapshot_2 0 rfl ?_
  refine x_iload_n (pc := 3) dL_saveSnapshot_3 1 rfl ?_
  refine x_callV (pc := 4) _ dL_saveSnapshot_4 (hc) lkL_122 rfl rfl rfl rfl (mem_dom0 (by decide) (by decide)) (by decide) (Nat.le_of_ble_eq_true rfl) rfl ?_
  refine x_i2l (pc := 7) dL_saveSnapshot_7 hr ?_
  refine y_last (pc := 8) dL_saveSnapshot_8 rfl (by decide) (by omega) ?_
  refine x_goto (pc := 9) 15 dL_saveSnapshot_9 (by decide) ?_
  refine x_iconst (pc := 15) dL_saveSnapshot_15 ?_
  exact y_iret (pc := 16) dL_saveSnapshot_16 rfl rfl rfl

theorem hq_saveSnapshot_iaE {G : GG} {m m1 : Mem} {a0 : Int} (hc : Ct G MX7_saveSnapshot (rmE 1) [rf G 38 0, .int (iI a0)] (hp m) (.inr iaE) (hp m1)) : CtW G ML_saveSnapshot ML_saveSnapshot_h (rmE 2) [rf G 38 0, .int (iI a0), rf G 49 0] (hp (m)) (.inl (some (.int (iI (1))))) (hp (m1)) := by
  refine x_entryW (by decide +kernel) mwL_saveSnapshot rfl (Nat.le_of_ble_eq_true rfl) ?_
  show X G ML_saveSnapshot (rmE 2) 0 [(0, rf G 38 0), (1, .int (iI a0)), (2, rf G 49 0)] [] (hp (m)) 0 0 (.inl (some (.int (iI (1))))) (hp (m1))
  refine x_aload_n (pc := 0) dL_saveSnapshot_0 2 rfl ?_
  refine x_iconst (pc := 1) dL_saveSnapshot_1 ?_
  refine x_aload_n (pc := 2) dL_saveSnapshot_2 0 rfl ?_
  refine x_iload_n (pc := 3) dL_saveSnapshot_3 1 rfl ?_
  refine x_callVC (pc := 4) _ dL_saveSnapshot_4 (hc) lkL_122 rfl rfl rfl rfl (mem_dom0 (by decide) (by decide)) (by decide) (Nat.le_of_ble_eq_true rfl) rfl [] _ _ rfl (fun z hz => nomatch hz) (by decide) (by decide) clIA (by decide) (fun q => ?_)
  refine x_astore_n (pc := 12) (lv' := [(3, _), (0, _), (1, _), (2, _)]) dL_saveSnapshot_12 rfl (by decide) rfl ?_
  refine x_iconst (pc := 13) dL_saveSnapshot_13 ?_
  exact y_iret (pc := 14) dL_saveSnapshot_14 rfl rfl rfl

theorem hq_restoreSnapshot {G : GG} {m m1 : Mem} {a0 : Int} {r : Int} (hr : inI r) (hc : Ct G MX7_restoreSnapshot (rmD 9) [rf G 38 0, .int (iI a0)] (hp m) (.inl (some (.int (iI (r))))) (hp m1)) : CtW G ML_restoreSnapshot ML_restoreSnapshot_h (rmD 10) [rf G 38 0, .int (iI a0), rf G 49 0] (hp (m)) (.inl (some (.int (iI (0))))) (hp (up3 m1 49 0 0 r)) := by
  refine x_entryW (by decide +kernel) mwL_restoreSnapshot rfl (Nat.le_of_ble_eq_true rfl) ?_
  show X G ML_restoreSnapshot (rmD 10) 0 [(0, rf G 38 0), (1, .int (iI a0)), (2, rf G 49 0)] [] (hp (m)) 0 0 (.inl (some (.int (iI (0))))) (hp (up3 m1 49 0 0 r))
  refine x_aload_n (pc := 0) dL_restoreSnapshot_0 2 rfl ?_
  refine x_iconst (pc := 1) dL_restoreSnapshot_1 ?_
  refine x_aload_n (pc := 2) dL_restoreSnapshot_2 0 rfl ?_
  refine x_iload_n (pc := 3) dL_restoreSnapshot_3 1 rfl ?_
  refine x_callV (pc := 4) _ dL_restoreSnapshot_4 (hc) lkL_125 rfl rfl rfl rfl (mem_dom0 (by decide) (by decide)) (by decide) (Nat.le_of_ble_eq_true rfl) rfl ?_
  refine x_i2l (pc := 7) dL_restoreSnapshot_7 hr ?_
  refine y_last (pc := 8) dL_restoreSnapshot_8 rfl (by decide) (by omega) ?_
  refine x_goto (pc := 9) 15 dL_restoreSnapshot_9 (by decide) ?_
  refine x_iconst (pc := 15) dL_restoreSnapshot_15 ?_
  exact y_iret (pc := 16) dL_restoreSnapshot_16 rfl rfl rfl

theorem hq_restoreSnapshot_iaE {G : GG} {m m1 : Mem} {a0 : Int} (hc : Ct G MX7_restoreSnapshot (rmE 1) [rf G 38 0, .int (iI a0)] (hp m) (.inr iaE) (hp m1)) : CtW G ML_restoreSnapshot ML_restoreSnapshot_h (rmE 2) [rf G 38 0, .int (iI a0), rf G 49 0] (hp (m)) (.inl (some (.int (iI (1))))) (hp (m1)) := by
  refine x_entryW (by decide +kernel) mwL_restoreSnapshot rfl (Nat.le_of_ble_eq_true rfl) ?_
  show X G ML_restoreSnapshot (rmE 2) 0 [(0, rf G 38 0), (1, .int (iI a0)), (2, rf G 49 0)] [] (hp (m)) 0 0 (.inl (some (.int (iI (1))))) (hp (m1))
  refine x_aload_n (pc := 0) dL_restoreSnapshot_0 2 rfl ?_
  refine x_iconst (pc := 1) dL_restoreSnapshot_1 ?_
  refine x_aload_n (pc := 2) dL_restoreSnapshot_2 0 rfl ?_
  refine x_iload_n (pc := 3) dL_restoreSnapshot_3 1 rfl ?_
  refine x_callVC (pc := 4) _ dL_restoreSnapshot_4 (hc) lkL_125 rfl rfl rfl rfl (mem_dom0 (by decide) (by decide)) (by decide) (Nat.le_of_ble_eq_true rfl) rfl [] _ _ rfl (fun z hz => nomatch hz) (by decide) (by decide) clIA (by decide) (fun q => ?_)
  refine x_astore_n (pc := 12) (lv' := [(3, _), (0, _), (1, _), (2, _)]) dL_restoreSnapshot_12 rfl (by decide) rfl ?_
  refine x_iconst (pc := 13) dL_restoreSnapshot_13 ?_
  exact y_iret (pc := 14) dL_restoreSnapshot_14 rfl rfl rfl
