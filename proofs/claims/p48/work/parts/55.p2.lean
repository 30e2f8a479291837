/-! words, statements, the whole text: the class's Reader -/
def wF (T : Int → Int) (a : Int) (i : Nat) : Nat → Nat → Bool
  | 0, _ => true
  | n + 1, j => if T (a + j) = sB i j then wF T a i n (j + 1) else false
def wdB (T : Int → Int) (a b : Int) (i : Nat) : Bool := if b - a = sL i then wF T a i (sL i).toNat 0 else false
def kdN (T : Int → Int) (a b : Int) : Int := if wdB T a b 0 = true then 0 else if wdB T a b 1 = true then 1 else if wdB T a b 2 = true then 2 else if wdB T a b 3 = true then 3 else if wdB T a b 4 = true then 4 else if wdB T a b 5 = true then 5 else if wdB T a b 6 = true then 6 else -1
theorem kdN_b (T : Int → Int) (a b : Int) : -1 ≤ kdN T a b ∧ kdN T a b ≤ 6 := by
  unfold kdN
  repeat' split
  all_goals omega
theorem lp_word {G : GG} {m : Mem} {i : Nat} (hi : i < 15) (a b : Int) (ha : 0 ≤ a) (hb : b ≤ 500) (hab : b - a = sL i) (z9 : Bool) (hB : RB m)  : ∀ (n : Nat) (j : Nat), (j : Int) + n = sL i → z9 = wF (m 35 0) a i n j → X G MX3_isWord (rmD 4) 15 [(4, .int (iI (j : Nat))), (0, rf G 34 0), (1, .int (iI a)), (2, .int (iI b)), (3, .ref (gK G i))] [] (hp (m)) 0 0 (.inl (some (.int (iI (if z9 = true then 1 else 0))))) (hp (m)) := by
  intro n
  induction n with
  | zero =>
    intro j hn h9
    have bl := sL_b hi
    refine x_iload (pc := 15) dX3_isWord_15 0 rfl ?_
    refine x_aload_n (pc := 17) dX3_isWord_17 4 rfl ?_
    refine x_callVs (pc := 18) _ hi dX3_isWord_18 (ct_slen hi) lkX3_118 rfl rfl (by decide) (Nat.le_of_ble_eq_true rfl) rfl ?_
    refine x_icmp_ge (pc := 21) 50 dX3_isWord_21 (by decide) (by unfold inI; omega) (by unfold inI; omega) (fun c_21 => ?_) (fun c_21 => (by exfalso; omega))
    refine x_iconst (pc := 50) dX3_isWord_50 ?_
    exact y_z1ret (pc := 51) dX3_isWord_51 rfl (by rw [h9]; rfl) rfl
  | succ n ih =>
    intro j hn h9
    have bl := sL_b hi
    refine x_iload (pc := 15) dX3_isWord_15 0 rfl ?_
    refine x_aload_n (pc := 17) dX3_isWord_17 4 rfl ?_
    refine x_callVs (pc := 18) _ hi dX3_isWord_18 (ct_slen hi) lkX3_118 rfl rfl (by decide) (Nat.le_of_ble_eq_true rfl) rfl ?_
    refine x_icmp_ge (pc := 21) 50 dX3_isWord_21 (by decide) (by unfold inI; omega) (by unfold inI; omega) (fun c_21 => (by exfalso; omega)) (fun c_21 => ?_)
    have sb := sB_b i j hi (by omega)
    have tx := hB.2.2.1 (a + j) (by omega) (by omega)
    refine x_aload_n (pc := 24) dX3_isWord_24 1 rfl ?_
    refine y_getR (pc := 25) dX3_isWord_25 flX3_23 rfl rfl rfl (by decide) ?_
    refine x_iload_n (pc := 28) dX3_isWord_28 2 rfl ?_
    refine x_iload (pc := 29) dX3_isWord_29 0 rfl ?_
    refine x_iadd (pc := 31) dX3_isWord_31 ?_
    refine y_bald (pc := 32) dX3_isWord_32 rfl (by decide) (by omega) ?_
    refine x_aload_n (pc := 33) dX3_isWord_33 4 rfl ?_
    refine x_iload (pc := 34) dX3_isWord_34 0 rfl ?_
    refine x_callVs (pc := 36) _ hi dX3_isWord_36 (ct_char hi j (by omega)) lkX3_123 rfl rfl (by decide) (Nat.le_of_ble_eq_true rfl) rfl ?_
    refine x_icmp_eq (pc := 39) 44 dX3_isWord_39 (by decide) (by unfold inI; omega) (by unfold inI; omega) (fun c_39 => ?_) (fun c_39 => ?_)
    · refine x_iinc (pc := 44) (lv' := [(4, _), (0, _), (1, _), (2, _), (3, _)]) dX3_isWord_44 0 rfl (by decide) rfl ?_
      refine x_goto (pc := 47) 15 dX3_isWord_47 (by decide) ?_
      exact x_lv [0, 1, 2, 3, 4] rfl (ih (j + 1) (by omega) (by rw [h9]; show (if _ then _ else _) = _; rw [if_pos c_39]))
    · refine x_iconst (pc := 42) dX3_isWord_42 ?_
      exact y_z0ret (pc := 43) dX3_isWord_43 rfl (by rw [h9]; show ¬ (if _ then _ else _) = true; rw [if_neg c_39]; decide) rfl
theorem ct_isWord {G : GG} {m : Mem} {i : Nat} (hi : i < 15) (a b : Int) (ha : 0 ≤ a ∧ a ≤ 500) (hb : 0 ≤ b ∧ b ≤ 500) (hB : RB m)  : Ct G MX3_isWord (rmD 4) [rf G 34 0, .int (iI a), .int (iI b), .ref (gK G i)] (hp (m)) (.inl (some (.int (iI (if wdB (m 35 0) a b i = true then 1 else 0))))) (hp (m)) := by
  refine x_entry (by decide +kernel) mwX3_isWord rfl (Nat.le_of_ble_eq_true rfl) ?_
  show X G MX3_isWord (rmD 4) 0 [(0, rf G 34 0), (1, .int (iI a)), (2, .int (iI b)), (3, .ref (gK G i))] [] (hp (m)) 0 0 (.inl (some (.int (iI (if wdB (m 35 0) a b i = true then 1 else 0))))) (hp (m))
  have bl := sL_b hi
  refine x_iload_n (pc := 0) dX3_isWord_0 2 rfl ?_
  refine x_iload_n (pc := 1) dX3_isWord_1 1 rfl ?_
  refine x_isub (pc := 2) dX3_isWord_2 ?_
  refine x_aload_n (pc := 3) dX3_isWord_3 3 rfl ?_
  refine x_callVs (pc := 4) _ hi dX3_isWord_4 (ct_slen hi) lkX3_118 rfl rfl (by decide) (Nat.le_of_ble_eq_true rfl) rfl ?_
  refine x_icmp_eq (pc := 7) 12 dX3_isWord_7 (by decide) (by unfold inI; omega) (by unfold inI; omega) (fun c_7 => ?_) (fun c_7 => ?_)
  · refine x_iconst (pc := 12) dX3_isWord_12 ?_
    refine x_istore (pc := 13) (lv' := [(4, _), (0, _), (1, _), (2, _), (3, _)]) dX3_isWord_13 (by decide) rfl ?_
    have e9 : wdB (m 35 0) a b i = wF (m 35 0) a i (sL i).toNat 0 := by unfold wdB; rw [if_pos c_7]
    rw [e9]
    exact x_lv [0, 1, 2, 3, 4] rfl (lp_word hi a b ha.1 hb.2 c_7 _ hB (sL i).toNat 0 (by omega) rfl)
  · refine x_iconst (pc := 10) dX3_isWord_10 ?_
    exact y_z0ret (pc := 11) dX3_isWord_11 rfl (by unfold wdB; rw [if_neg c_7]; decide) rfl
theorem ct_kind {G : GG} {m : Mem} (a b : Int) (ha : 0 ≤ a ∧ a ≤ 500) (hb : 0 ≤ b ∧ b ≤ 500) (hB : RB m)  : Ct G MX3_kindOfWord (rmD 5) [rf G 34 0, .int (iI a), .int (iI b)] (hp (m)) (.inl (some (.int (iI (kdN (m 35 0) a b))))) (hp (m)) := by
  refine x_entry (by decide +kernel) mwX3_kindOfWord rfl (Nat.le_of_ble_eq_true rfl) ?_
  show X G MX3_kindOfWord (rmD 5) 0 [(0, rf G 34 0), (1, .int (iI a)), (2, .int (iI b))] [] (hp (m)) 0 0 (.inl (some (.int (iI (kdN (m 35 0) a b))))) (hp (m))
  refine x_aload_n (pc := 0) dX3_kindOfWord_0 0 rfl ?_
  refine x_iload_n (pc := 1) dX3_kindOfWord_1 1 rfl ?_
  refine x_iload_n (pc := 2) dX3_kindOfWord_2 2 rfl ?_
  refine x_ldcS (pc := 3) "packs" 0 dX3_kindOfWord_3 (by decide +kernel) ?_
  refine x_callV (pc := 5) _ dX3_kindOfWord_5 (ct_isWord (i := 0) (by decide) a b ha hb hB) lkX3_102 rfl rfl rfl rfl (mem_dom0 (by decide) (by decide)) (by decide) (Nat.le_of_ble_eq_true rfl) rfl ?_
  refine x_ifb_eq (pc := 8) 13 dX3_kindOfWord_8 (by decide) (fun c_8 => ?_) (fun c_8 => ?_)
  · refine x_aload_n (pc := 13) dX3_kindOfWord_13 0 rfl ?_
    refine x_iload_n (pc := 14) dX3_kindOfWord_14 1 rfl ?_
    refine x_iload_n (pc := 15) dX3_kindOfWord_15 2 rfl ?_
    refine x_ldcS (pc := 16) "curve" 1 dX3_kindOfWord_16 (by decide +kernel) ?_
    refine x_callV (pc := 18) _ dX3_kindOfWord_18 (ct_isWord (i := 1) (by decide) a b ha hb hB) lkX3_102 rfl rfl rfl rfl (mem_dom0 (by decide) (by decide)) (by decide) (Nat.le_of_ble_eq_true rfl) rfl ?_
    refine x_ifb_eq (pc := 21) 26 dX3_kindOfWord_21 (by decide) (fun c_21 => ?_) (fun c_21 => ?_)
    · refine x_aload_n (pc := 26) dX3_kindOfWord_26 0 rfl ?_
      refine x_iload_n (pc := 27) dX3_kindOfWord_27 1 rfl ?_
      refine x_iload_n (pc := 28) dX3_kindOfWord_28 2 rfl ?_
      refine x_ldcS (pc := 29) "pack" 2 dX3_kindOfWord_29 (by decide +kernel) ?_
      refine x_callV (pc := 31) _ dX3_kindOfWord_31 (ct_isWord (i := 2) (by decide) a b ha hb hB) lkX3_102 rfl rfl rfl rfl (mem_dom0 (by decide) (by decide)) (by decide) (Nat.le_of_ble_eq_true rfl) rfl ?_
      refine x_ifb_eq (pc := 34) 39 dX3_kindOfWord_34 (by decide) (fun c_34 => ?_) (fun c_34 => ?_)
      · refine x_aload_n (pc := 39) dX3_kindOfWord_39 0 rfl ?_
        refine x_iload_n (pc := 40) dX3_kindOfWord_40 1 rfl ?_
        refine x_iload_n (pc := 41) dX3_kindOfWord_41 2 rfl ?_
        refine x_ldcS (pc := 42) "cable" 3 dX3_kindOfWord_42 (by decide +kernel) ?_
        refine x_callV (pc := 44) _ dX3_kindOfWord_44 (ct_isWord (i := 3) (by decide) a b ha hb hB) lkX3_102 rfl rfl rfl rfl (mem_dom0 (by decide) (by decide)) (by decide) (Nat.le_of_ble_eq_true rfl) rfl ?_
        refine x_ifb_eq (pc := 47) 52 dX3_kindOfWord_47 (by decide) (fun c_47 => ?_) (fun c_47 => ?_)
        · refine x_aload_n (pc := 52) dX3_kindOfWord_52 0 rfl ?_
          refine x_iload_n (pc := 53) dX3_kindOfWord_53 1 rfl ?_
          refine x_iload_n (pc := 54) dX3_kindOfWord_54 2 rfl ?_
          refine x_ldcS (pc := 55) "sun" 4 dX3_kindOfWord_55 (by decide +kernel) ?_
          refine x_callV (pc := 57) _ dX3_kindOfWord_57 (ct_isWord (i := 4) (by decide) a b ha hb hB) lkX3_102 rfl rfl rfl rfl (mem_dom0 (by decide) (by decide)) (by decide) (Nat.le_of_ble_eq_true rfl) rfl ?_
          refine x_ifb_eq (pc := 60) 65 dX3_kindOfWord_60 (by decide) (fun c_60 => ?_) (fun c_60 => ?_)
          · refine x_aload_n (pc := 65) dX3_kindOfWord_65 0 rfl ?_
            refine x_iload_n (pc := 66) dX3_kindOfWord_66 1 rfl ?_
            refine x_iload_n (pc := 67) dX3_kindOfWord_67 2 rfl ?_
            refine x_ldcS (pc := 68) "trip" 5 dX3_kindOfWord_68 (by decide +kernel) ?_
            refine x_callV (pc := 70) _ dX3_kindOfWord_70 (ct_isWord (i := 5) (by decide) a b ha hb hB) lkX3_102 rfl rfl rfl rfl (mem_dom0 (by decide) (by decide)) (by decide) (Nat.le_of_ble_eq_true rfl) rfl ?_
            refine x_ifb_eq (pc := 73) 78 dX3_kindOfWord_73 (by decide) (fun c_73 => ?_) (fun c_73 => ?_)
            · refine x_aload_n (pc := 78) dX3_kindOfWord_78 0 rfl ?_
              refine x_iload_n (pc := 79) dX3_kindOfWord_79 1 rfl ?_
              refine x_iload_n (pc := 80) dX3_kindOfWord_80 2 rfl ?_
              refine x_ldcS (pc := 81) "contract" 6 dX3_kindOfWord_81 (by decide +kernel) ?_
              refine x_callV (pc := 83) _ dX3_kindOfWord_83 (ct_isWord (i := 6) (by decide) a b ha hb hB) lkX3_102 rfl rfl rfl rfl (mem_dom0 (by decide) (by decide)) (by decide) (Nat.le_of_ble_eq_true rfl) rfl ?_
              refine x_ifb_eq (pc := 86) 94 dX3_kindOfWord_86 (by decide) (fun c_86 => ?_) (fun c_86 => ?_)
              · refine x_iconst (pc := 94) dX3_kindOfWord_94 ?_
                exact y_iret (pc := 95) dX3_kindOfWord_95 rfl (by unfold kdN; rw [if_neg c_8, if_neg c_21, if_neg c_34, if_neg c_47, if_neg c_60, if_neg c_73, if_neg c_86]) rfl
              · refine x_bipush (pc := 89) (z := 6) dX3_kindOfWord_89 (by decide) ?_
                refine x_goto (pc := 91) 95 dX3_kindOfWord_91 (by decide) ?_
                exact y_iret (pc := 95) dX3_kindOfWord_95 rfl (by unfold kdN; rw [if_neg c_8, if_neg c_21, if_neg c_34, if_neg c_47, if_neg c_60, if_neg c_73, if_pos c_86]) rfl
            · refine x_iconst (pc := 76) dX3_kindOfWord_76 ?_
              exact y_iret (pc := 77) dX3_kindOfWord_77 rfl (by unfold kdN; rw [if_neg c_8, if_neg c_21, if_neg c_34, if_neg c_47, if_neg c_60, if_pos c_73]) rfl
          · refine x_iconst (pc := 63) dX3_kindOfWord_63 ?_
            exact y_iret (pc := 64) dX3_kindOfWord_64 rfl (by unfold kdN; rw [if_neg c_8, if_neg c_21, if_neg c_34, if_neg c_47, if_pos c_60]) rfl
        · refine x_iconst (pc := 50) dX3_kindOfWord_50 ?_
          exact y_iret (pc := 51) dX3_kindOfWord_51 rfl (by unfold kdN; rw [if_neg c_8, if_neg c_21, if_neg c_34, if_pos c_47]) rfl
      · refine x_iconst (pc := 37) dX3_kindOfWord_37 ?_
        exact y_iret (pc := 38) dX3_kindOfWord_38 rfl (by unfold kdN; rw [if_neg c_8, if_neg c_21, if_pos c_34]) rfl
    · refine x_iconst (pc := 24) dX3_kindOfWord_24 ?_
      exact y_iret (pc := 25) dX3_kindOfWord_25 rfl (by unfold kdN; rw [if_neg c_8, if_pos c_21]) rfl
  · refine x_iconst (pc := 11) dX3_kindOfWord_11 ?_
    exact y_iret (pc := 12) dX3_kindOfWord_12 rfl (by unfold kdN; rw [if_pos c_8]) rfl
abbrev fuP (m : Mem) (k : Int) : Prop := (k = 1 ∧ 4 ≤ m 22 3 3) ∨ (k = 2 ∧ 8 ≤ m 22 3 2) ∨ (k = 3 ∧ 12 ≤ m 22 3 5) ∨ (k = 4 ∧ 12 ≤ m 22 3 4) ∨ (k = 5 ∧ 16 ≤ m 1 4 0) ∨ (k = 6 ∧ 8 ≤ m 22 3 6)
theorem ct_full {G : GG} {m : Mem} (k : Int) (hk : -1 ≤ k ∧ k ≤ 6) (hC : CB m)  : Ct G MX3_isFull (rmD 0) [rf G 34 0, .int (iI k)] (hp (m)) (.inl (some (.int (iI (if fuP m k then 1 else 0))))) (hp (m)) := by
  refine x_entry (by decide +kernel) mwX3_isFull rfl (Nat.le_of_ble_eq_true rfl) ?_
  show X G MX3_isFull (rmD 0) 0 [(0, rf G 34 0), (1, .int (iI k))] [] (hp (m)) 0 0 (.inl (some (.int (iI (if fuP m k then 1 else 0))))) (hp (m))
  have n2 := hC.1
  have n3 := hC.2.1
  have n4 := hC.2.2.1
  have n5 := hC.2.2.2.1
  have n6 := hC.2.2.2.2.1
  have n1 := hC.2.2.2.2.2.1
  refine x_iload_n (pc := 0) dX3_isFull_0 1 rfl ?_
  by_cases w_1 : k = 1
  · subst w_1
    refine x_tabIn (pc := 1) 40 dX3_isFull_1 (by unfold inI; omega) (by decide) (by decide) rfl (by decide) ?_
    refine x_aload_n (pc := 40) dX3_isFull_40 0 rfl ?_
    refine y_getR (pc := 41) dX3_isFull_41 flX3_17 rfl rfl rfl (by decide) ?_
    refine y_getR (pc := 44) (b := 3) dX3_isFull_44 flX3_31 rfl rfl rfl (by decide) ?_
    refine y_getI (pc := 47) 3 dX3_isFull_47 flX3_127 rfl rfl rfl (by decide) ?_
    refine x_iconst (pc := 50) dX3_isFull_50 ?_
    refine x_icmp_lt (pc := 51) 58 dX3_isFull_51 (by decide) (by unfold inI; omega) (by unfold inI; omega) (fun c_51 => ?_) (fun c_51 => ?_)
    · refine x_iconst (pc := 58) dX3_isFull_58 ?_
      exact y_z0ret (pc := 59) dX3_isFull_59 rfl (by unfold fuP; omega) rfl
    · refine x_iconst (pc := 54) dX3_isFull_54 ?_
      refine x_goto (pc := 55) 59 dX3_isFull_55 (by decide) ?_
      exact y_z1ret (pc := 59) dX3_isFull_59 rfl (by unfold fuP; omega) rfl
  by_cases w_2 : k = 2
  · subst w_2
    refine x_tabIn (pc := 1) 60 dX3_isFull_1 (by unfold inI; omega) (by decide) (by decide) rfl (by decide) ?_
    refine x_aload_n (pc := 60) dX3_isFull_60 0 rfl ?_
    refine y_getR (pc := 61) dX3_isFull_61 flX3_17 rfl rfl rfl (by decide) ?_
    refine y_getR (pc := 64) (b := 3) dX3_isFull_64 flX3_31 rfl rfl rfl (by decide) ?_
    refine y_getI (pc := 67) 2 dX3_isFull_67 flX3_130 rfl rfl rfl (by decide) ?_
    refine x_bipush (pc := 70) (z := 8) dX3_isFull_70 (by decide) ?_
    refine x_icmp_lt (pc := 72) 79 dX3_isFull_72 (by decide) (by unfold inI; omega) (by unfold inI; omega) (fun c_72 => ?_) (fun c_72 => ?_)
    · refine x_iconst (pc := 79) dX3_isFull_79 ?_
      exact y_z0ret (pc := 80) dX3_isFull_80 rfl (by unfold fuP; omega) rfl
    · refine x_iconst (pc := 75) dX3_isFull_75 ?_
      refine x_goto (pc := 76) 80 dX3_isFull_76 (by decide) ?_
      exact y_z1ret (pc := 80) dX3_isFull_80 rfl (by unfold fuP; omega) rfl
  by_cases w_3 : k = 3
  · subst w_3
    refine x_tabIn (pc := 1) 81 dX3_isFull_1 (by unfold inI; omega) (by decide) (by decide) rfl (by decide) ?_
    refine x_aload_n (pc := 81) dX3_isFull_81 0 rfl ?_
    refine y_getR (pc := 82) dX3_isFull_82 flX3_17 rfl rfl rfl (by decide) ?_
    refine y_getR (pc := 85) (b := 3) dX3_isFull_85 flX3_31 rfl rfl rfl (by decide) ?_
    refine y_getI (pc := 88) 5 dX3_isFull_88 flX3_132 rfl rfl rfl (by decide) ?_
    refine x_bipush (pc := 91) (z := 12) dX3_isFull_91 (by decide) ?_
    refine x_icmp_lt (pc := 93) 100 dX3_isFull_93 (by decide) (by unfold inI; omega) (by unfold inI; omega) (fun c_93 => ?_) (fun c_93 => ?_)
    · refine x_iconst (pc := 100) dX3_isFull_100 ?_
      exact y_z0ret (pc := 101) dX3_isFull_101 rfl (by unfold fuP; omega) rfl
    · refine x_iconst (pc := 96) dX3_isFull_96 ?_
      refine x_goto (pc := 97) 101 dX3_isFull_97 (by decide) ?_
      exact y_z1ret (pc := 101) dX3_isFull_101 rfl (by unfold fuP; omega) rfl
  by_cases w_4 : k = 4
  · subst w_4
    refine x_tabIn (pc := 1) 102 dX3_isFull_1 (by unfold inI; omega) (by decide) (by decide) rfl (by decide) ?_
    refine x_aload_n (pc := 102) dX3_isFull_102 0 rfl ?_
    refine y_getR (pc := 103) dX3_isFull_103 flX3_17 rfl rfl rfl (by decide) ?_
    refine y_getR (pc := 106) (b := 3) dX3_isFull_106 flX3_31 rfl rfl rfl (by decide) ?_
    refine y_getI (pc := 109) 4 dX3_isFull_109 flX3_135 rfl rfl rfl (by decide) ?_
    refine x_bipush (pc := 112) (z := 12) dX3_isFull_112 (by decide) ?_
    refine x_icmp_lt (pc := 114) 121 dX3_isFull_114 (by decide) (by unfold inI; omega) (by unfold inI; omega) (fun c_114 => ?_) (fun c_114 => ?_)
    · refine x_iconst (pc := 121) dX3_isFull_121 ?_
      exact y_z0ret (pc := 122) dX3_isFull_122 rfl (by unfold fuP; omega) rfl
    · refine x_iconst (pc := 117) dX3_isFull_117 ?_
      refine x_goto (pc := 118) 122 dX3_isFull_118 (by decide) ?_
      exact y_z1ret (pc := 122) dX3_isFull_122 rfl (by unfold fuP; omega) rfl
  by_cases w_5 : k = 5
  · subst w_5
    refine x_tabIn (pc := 1) 123 dX3_isFull_1 (by unfold inI; omega) (by decide) (by decide) rfl (by decide) ?_
    refine x_aload_n (pc := 123) dX3_isFull_123 0 rfl ?_
    refine y_getR (pc := 124) dX3_isFull_124 flX3_17 rfl rfl rfl (by decide) ?_
    refine y_getR (pc := 127) (b := 4) dX3_isFull_127 flX3_38 rfl rfl rfl (by decide) ?_
    refine y_getR (pc := 130) dX3_isFull_130 flX3_138 rfl rfl rfl (by decide) ?_
    refine y_getI (pc := 133) 0 dX3_isFull_133 flX3_142 rfl rfl rfl (by decide) ?_
    refine x_bipush (pc := 136) (z := 16) dX3_isFull_136 (by decide) ?_
    refine x_icmp_lt (pc := 138) 145 dX3_isFull_138 (by decide) (by unfold inI; omega) (by unfold inI; omega) (fun c_138 => ?_) (fun c_138 => ?_)
    · refine x_iconst (pc := 145) dX3_isFull_145 ?_
      exact y_z0ret (pc := 146) dX3_isFull_146 rfl (by unfold fuP; omega) rfl
    · refine x_iconst (pc := 141) dX3_isFull_141 ?_
      refine x_goto (pc := 142) 146 dX3_isFull_142 (by decide) ?_
      exact y_z1ret (pc := 146) dX3_isFull_146 rfl (by unfold fuP; omega) rfl
  by_cases w_6 : k = 6
  · subst w_6
    refine x_tabIn (pc := 1) 147 dX3_isFull_1 (by unfold inI; omega) (by decide) (by decide) rfl (by decide) ?_
    refine x_aload_n (pc := 147) dX3_isFull_147 0 rfl ?_
    refine y_getR (pc := 148) dX3_isFull_148 flX3_17 rfl rfl rfl (by decide) ?_
    refine y_getR (pc := 151) (b := 3) dX3_isFull_151 flX3_31 rfl rfl rfl (by decide) ?_
    refine y_getI (pc := 154) 6 dX3_isFull_154 flX3_147 rfl rfl rfl (by decide) ?_
    refine x_bipush (pc := 157) (z := 8) dX3_isFull_157 (by decide) ?_
    refine x_icmp_lt (pc := 159) 166 dX3_isFull_159 (by decide) (by unfold inI; omega) (by unfold inI; omega) (fun c_159 => ?_) (fun c_159 => ?_)
    · refine x_iconst (pc := 166) dX3_isFull_166 ?_
      exact y_z0ret (pc := 167) dX3_isFull_167 rfl (by unfold fuP; omega) rfl
    · refine x_iconst (pc := 162) dX3_isFull_162 ?_
      refine x_goto (pc := 163) 167 dX3_isFull_163 (by decide) ?_
      exact y_z1ret (pc := 167) dX3_isFull_167 rfl (by unfold fuP; omega) rfl
  refine x_tabOut (pc := 1) 168 dX3_isFull_1 (by unfold inI; omega) (by omega) (by decide) ?_
  refine x_iconst (pc := 168) dX3_isFull_168 ?_
  exact y_z0ret (pc := 169) dX3_isFull_169 rfl (by unfold fuP; omega) rfl
def st1 (m : Mem) : Mem := scM (skM m) bW
def stA (m : Mem) : Int := skM m 34 0 6
def stK (m : Mem) : Int := kdN (st1 m 35 0) (stA m) (st1 m 34 0 6)
def rdK (m : Mem) (k : Int) : Mem := if k = 0 then rd0 m else if k = 1 then rd1 m else if k = 2 then rd2 m else if k = 3 then rd3 m else if k = 4 then rd4 m else if k = 5 then rd5 m else rd6 m
abbrev stP (m : Mem) : Prop := stK m = -1 ∨ ¬ (stK m = 0 ↔ m 34 0 3 = 0)
def stM (m : Mem) : Mem := if stP m then failM (st1 m) 1 (stA m) else if fuP (st1 m) (stK m) then failM (st1 m) 4 (stA m) else rdK (st1 m) (stK m)
theorem RB_st1 {m : Mem} (h : RB m) : RB (st1 m) := RB_sc (RB_sc h)
theorem st1_k {m : Mem} {k : Nat} (h : k ≠ 34) : st1 m k = m k := by unfold st1 skM; rw [scM_k h, scM_k h]
theorem st1_j {m : Mem} {j : Int} (h : j ≠ 6) : st1 m 34 0 j = m 34 0 j := by unfold st1 skM; rw [scM_j h, scM_j h]
theorem CB_st1 {m : Mem} (h : CB m) : CB (st1 m) := CB_sc (CB_sc h)
theorem lp_let {G : GG} (m9 mE : Mem) (a : Int) (kk : X G MX3_readStatement (rmD 6) 61 [(1, .int (iI a)), (0, rf G 34 0)] [] (hp m9) 0 0 (.inl none) (hp mE))  : ∀ (n : Nat) (m : Mem), RB m → m 34 0 6 + n = m 34 0 5 → m9 = up3 m 34 0 6 (scF (m 35 0) bW n (m 34 0 6)) → X G MX3_readStatement (rmD 6) 9 [(1, .int (iI a)), (0, rf G 34 0)] [] (hp (m)) 0 0 (.inl none) (hp (mE)) := by
  intro n
  induction n with
  | zero =>
    intro m hB hn h9
    have b1 := hB.1
    have b2 := hB.2.1
    have b4 := hB.2.2.2
    refine x_aload_n (pc := 9) dX3_readStatement_9 1 rfl ?_
    refine y_getI (pc := 10) 6 dX3_readStatement_10 flX3_54 rfl rfl rfl (by decide) ?_
    refine x_aload_n (pc := 13) dX3_readStatement_13 1 rfl ?_
    refine y_getI (pc := 14) 5 dX3_readStatement_14 flX3_27 rfl rfl rfl (by decide) ?_
    refine x_icmp_ge (pc := 17) 61 dX3_readStatement_17 (by decide) (by unfold inI; omega) (by unfold inI; omega) (fun c_17 => ?_) (fun c_17 => (by exfalso; omega))
    have e2 : m9 = m := by rw [h9]; exact up3_id
    rw [← e2]
    exact x_lv [0, 1] rfl kk
  | succ n ih =>
    intro m hB hn h9
    have b1 := hB.1
    have b2 := hB.2.1
    have b4 := hB.2.2.2
    refine x_aload_n (pc := 9) dX3_readStatement_9 1 rfl ?_
    refine y_getI (pc := 10) 6 dX3_readStatement_10 flX3_54 rfl rfl rfl (by decide) ?_
    refine x_aload_n (pc := 13) dX3_readStatement_13 1 rfl ?_
    refine y_getI (pc := 14) 5 dX3_readStatement_14 flX3_27 rfl rfl rfl (by decide) ?_
    refine x_icmp_ge (pc := 17) 61 dX3_readStatement_17 (by decide) (by unfold inI; omega) (by unfold inI; omega) (fun c_17 => (by exfalso; omega)) (fun c_17 => ?_)
    have tx := hB.2.2.1 (m 34 0 6) (by omega) (by omega)
    refine x_aload_n (pc := 20) dX3_readStatement_20 1 rfl ?_
    refine y_getR (pc := 21) dX3_readStatement_21 flX3_23 rfl rfl rfl (by decide) ?_
    refine x_aload_n (pc := 24) dX3_readStatement_24 1 rfl ?_
    refine y_getI (pc := 25) 6 dX3_readStatement_25 flX3_54 rfl rfl rfl (by decide) ?_
    refine y_bald (pc := 28) dX3_readStatement_28 rfl (by decide) (by omega) ?_
    refine x_bipush (pc := 29) (z := 97) dX3_readStatement_29 (by decide) ?_
    refine x_icmp_lt (pc := 31) 61 dX3_readStatement_31 (by decide) (by unfold inI; omega) (by unfold inI; omega) (fun c_31 => ?_) (fun c_31 => ?_)
    · have e1 : bW (m 35 0 (m 34 0 6)) ≠ true := by unfold bW; intro z; have := of_decide_eq_true z; omega
      have e2 : m9 = m := by rw [h9]; show up3 _ _ _ _ (if _ then _ else _) = _; rw [if_neg e1, up3_id]
      rw [← e2]
      exact x_lv [0, 1] rfl kk
    · refine x_aload_n (pc := 34) dX3_readStatement_34 1 rfl ?_
      refine y_getR (pc := 35) dX3_readStatement_35 flX3_23 rfl rfl rfl (by decide) ?_
      refine x_aload_n (pc := 38) dX3_readStatement_38 1 rfl ?_
      refine y_getI (pc := 39) 6 dX3_readStatement_39 flX3_54 rfl rfl rfl (by decide) ?_
      refine y_bald (pc := 42) dX3_readStatement_42 rfl (by decide) (by omega) ?_
      refine x_bipush (pc := 43) (z := 122) dX3_readStatement_43 (by decide) ?_
      refine x_icmp_gt (pc := 45) 61 dX3_readStatement_45 (by decide) (by unfold inI; omega) (by unfold inI; omega) (fun c_45 => ?_) (fun c_45 => ?_)
      · have e1 : bW (m 35 0 (m 34 0 6)) ≠ true := by unfold bW; intro z; have := of_decide_eq_true z; omega
        have e2 : m9 = m := by rw [h9]; show up3 _ _ _ _ (if _ then _ else _) = _; rw [if_neg e1, up3_id]
        rw [← e2]
        exact x_lv [0, 1] rfl kk
      · refine x_aload_n (pc := 48) dX3_readStatement_48 1 rfl ?_
        refine x_dup (pc := 49) dX3_readStatement_49 rfl ?_
        refine y_getI (pc := 50) 6 dX3_readStatement_50 flX3_54 rfl rfl rfl (by decide) ?_
        refine x_iconst (pc := 53) dX3_readStatement_53 ?_
        refine x_iadd (pc := 54) dX3_readStatement_54 ?_
        refine y_putI (pc := 55) 6 dX3_readStatement_55 fwX3_54 rfl rfl rfl (by decide) ?_
        refine x_goto (pc := 58) 9 dX3_readStatement_58 (by decide) ?_
        have e1 : bW (m 35 0 (m 34 0 6)) = true := by unfold bW; exact decide_eq_true (by omega)
        exact x_lv [0, 1] rfl (ih (up3 m 34 0 6 (m 34 0 6 + 1)) (RB_at hB (by omega) (by omega)) (by rw [up3_at, up3_off (by decide)]; omega) (by rw [h9, up3_up3, up3_at, up3_k (by decide)]; show up3 _ _ _ _ (if _ then _ else _) = _; rw [if_pos e1]))
theorem tl_st {G : GG} {m : Mem} {k : Int} (hk : k = stK m) (hB : RB m) (hC : CB m) (kx : ¬ stP m)  : X G MX3_readStatement (rmD 6) 107 [(2, .int (iI k)), (1, .int (iI (stA m))), (0, rf G 34 0)] [] (hp (st1 m)) 0 0 (.inl none) (hp (stM m)) := by
  have hB1 := RB_st1 hB
  have b1 := hB1.1
  have b2 := hB1.2.1
  have b3 := (RB_sc (p := bS) hB).2.1
  have b5 : skM m 34 0 5 = m 34 0 5 := scM_j (by decide)
  have b6 : st1 m 34 0 5 = m 34 0 5 := st1_j (by decide)
  have ba : 0 ≤ stA m ∧ stA m ≤ 500 := by unfold stA; exact ⟨b3.1, by have := b3.2; have := hB.1; have : (scM m bS) 34 0 5 = m 34 0 5 := scM_j (by decide); show scM m bS 34 0 6 ≤ 500; omega⟩
  have bk := kdN_b (st1 m 35 0) (stA m) (st1 m 34 0 6)
  have bk2 : -1 ≤ stK m ∧ stK m ≤ 6 := bk
  have hC1 := CB_st1 hC
  have n2 := hC1.1
  have n3 := hC1.2.1
  have n4 := hC1.2.2.1
  have n5 := hC1.2.2.2.1
  have n6 := hC1.2.2.2.2.1
  have n1 := hC1.2.2.2.2.2.1
  have e3 : st1 m 34 0 3 = m 34 0 3 := st1_j (by decide)
  have km : k ≠ -1 := fun z => kx (Or.inl (by rw [← hk]; exact z))
  rw [← hk] at bk2
  refine x_aload_n (pc := 107) dX3_readStatement_107 2 rfl ?_
  refine x_iload_n (pc := 108) dX3_readStatement_108 0 rfl ?_
  refine x_callV (pc := 109) _ dX3_readStatement_109 (ct_full k (by omega) hC1) lkX3_75 rfl rfl rfl rfl (mem_dom0 (by decide) (by decide)) (by decide) (Nat.le_of_ble_eq_true rfl) rfl ?_
  refine x_ifb_eq (pc := 112) 122 dX3_readStatement_112 (by decide) (fun c_112 => ?_) (fun c_112 => ?_)
  · refine x_iload_n (pc := 122) dX3_readStatement_122 0 rfl ?_
    by_cases w_0 : k = 0
    · subst w_0
      refine x_tabIn (pc := 123) 160 dX3_readStatement_123 (by unfold inI; omega) (by decide) (by decide) rfl (by decide) ?_
      refine x_aload_n (pc := 160) dX3_readStatement_160 2 rfl ?_
      have fu := c_112
      unfold fuP at fu
      refine x_callV (pc := 161) _ dX3_readStatement_161 (ct_rd0 hB1) lkX3_79 rfl rfl rfl rfl (mem_dom0 (by decide) (by decide)) (by decide) (Nat.le_of_ble_eq_true rfl) rfl ?_
      refine x_goto (pc := 164) 206 dX3_readStatement_164 (by decide) ?_
      exact y_vret (pc := 206) dX3_readStatement_206 rfl (by unfold stM; rw [if_neg kx, if_neg (by rw [← hk]; exact c_112), ← hk]; rfl)
    by_cases w_1 : k = 1
    · subst w_1
      refine x_tabIn (pc := 123) 167 dX3_readStatement_123 (by unfold inI; omega) (by decide) (by decide) rfl (by decide) ?_
      refine x_aload_n (pc := 167) dX3_readStatement_167 2 rfl ?_
      have fu := c_112
      unfold fuP at fu
      refine x_callV (pc := 168) _ dX3_readStatement_168 (ct_rd1 (by omega) hB1) lkX3_82 rfl rfl rfl rfl (mem_dom0 (by decide) (by decide)) (by decide) (Nat.le_of_ble_eq_true rfl) rfl ?_
      refine x_goto (pc := 171) 206 dX3_readStatement_171 (by decide) ?_
      exact y_vret (pc := 206) dX3_readStatement_206 rfl (by unfold stM; rw [if_neg kx, if_neg (by rw [← hk]; exact c_112), ← hk]; rfl)
    by_cases w_2 : k = 2
    · subst w_2
      refine x_tabIn (pc := 123) 174 dX3_readStatement_123 (by unfold inI; omega) (by decide) (by decide) rfl (by decide) ?_
      refine x_aload_n (pc := 174) dX3_readStatement_174 2 rfl ?_
      have fu := c_112
      unfold fuP at fu
      refine x_callV (pc := 175) _ dX3_readStatement_175 (ct_rd2 (by omega) hB1 hC1) lkX3_85 rfl rfl rfl rfl (mem_dom0 (by decide) (by decide)) (by decide) (Nat.le_of_ble_eq_true rfl) rfl ?_
      refine x_goto (pc := 178) 206 dX3_readStatement_178 (by decide) ?_
      exact y_vret (pc := 206) dX3_readStatement_206 rfl (by unfold stM; rw [if_neg kx, if_neg (by rw [← hk]; exact c_112), ← hk]; rfl)
    by_cases w_3 : k = 3
    · subst w_3
      refine x_tabIn (pc := 123) 181 dX3_readStatement_123 (by unfold inI; omega) (by decide) (by decide) rfl (by decide) ?_
      refine x_aload_n (pc := 181) dX3_readStatement_181 2 rfl ?_
      have fu := c_112
      unfold fuP at fu
      refine x_callV (pc := 182) _ dX3_readStatement_182 (ct_rd3 (by omega) hB1 hC1) lkX3_88 rfl rfl rfl rfl (mem_dom0 (by decide) (by decide)) (by decide) (Nat.le_of_ble_eq_true rfl) rfl ?_
      refine x_goto (pc := 185) 206 dX3_readStatement_185 (by decide) ?_
      exact y_vret (pc := 206) dX3_readStatement_206 rfl (by unfold stM; rw [if_neg kx, if_neg (by rw [← hk]; exact c_112), ← hk]; rfl)
    by_cases w_4 : k = 4
    · subst w_4
      refine x_tabIn (pc := 123) 188 dX3_readStatement_123 (by unfold inI; omega) (by decide) (by decide) rfl (by decide) ?_
      refine x_aload_n (pc := 188) dX3_readStatement_188 2 rfl ?_
      have fu := c_112
      unfold fuP at fu
      refine x_callV (pc := 189) _ dX3_readStatement_189 (ct_rd4 hB1 hC1) lkX3_91 rfl rfl rfl rfl (mem_dom0 (by decide) (by decide)) (by decide) (Nat.le_of_ble_eq_true rfl) rfl ?_
      refine x_goto (pc := 192) 206 dX3_readStatement_192 (by decide) ?_
      exact y_vret (pc := 206) dX3_readStatement_206 rfl (by unfold stM; rw [if_neg kx, if_neg (by rw [← hk]; exact c_112), ← hk]; rfl)
    by_cases w_5 : k = 5
    · subst w_5
      refine x_tabIn (pc := 123) 195 dX3_readStatement_123 (by unfold inI; omega) (by decide) (by decide) rfl (by decide) ?_
      refine x_aload_n (pc := 195) dX3_readStatement_195 2 rfl ?_
      have fu := c_112
      unfold fuP at fu
      refine x_callV (pc := 196) _ dX3_readStatement_196 (ct_rd5 (by omega) hB1 hC1) lkX3_94 rfl rfl rfl rfl (mem_dom0 (by decide) (by decide)) (by decide) (Nat.le_of_ble_eq_true rfl) rfl ?_
      refine x_goto (pc := 199) 206 dX3_readStatement_199 (by decide) ?_
      exact y_vret (pc := 206) dX3_readStatement_206 rfl (by unfold stM; rw [if_neg kx, if_neg (by rw [← hk]; exact c_112), ← hk]; rfl)
    refine x_tabOut (pc := 123) 202 dX3_readStatement_123 (by unfold inI; omega) (by omega) (by decide) ?_
    have k6 : k = 6 := by omega
    subst k6
    refine x_aload_n (pc := 202) dX3_readStatement_202 2 rfl ?_
    have fu := c_112
    unfold fuP at fu
    refine x_callV (pc := 203) _ dX3_readStatement_203 (ct_rd6 (by omega) hB1 hC1) lkX3_97 rfl rfl rfl rfl (mem_dom0 (by decide) (by decide)) (by decide) (Nat.le_of_ble_eq_true rfl) rfl ?_
    exact y_vret (pc := 206) dX3_readStatement_206 rfl (by unfold stM; rw [if_neg kx, if_neg (by rw [← hk]; exact c_112), ← hk]; rfl)
  · refine x_aload_n (pc := 115) dX3_readStatement_115 2 rfl ?_
    refine x_iconst (pc := 116) dX3_readStatement_116 ?_
    refine x_iload_n (pc := 117) dX3_readStatement_117 1 rfl ?_
    refine x_callV (pc := 118) _ dX3_readStatement_118 (ct_fail 4 (stA m) hB1) lkX3_67 rfl rfl rfl rfl (mem_dom0 (by decide) (by decide)) (by decide) (Nat.le_of_ble_eq_true rfl) rfl ?_
    exact y_vret (pc := 121) dX3_readStatement_121 rfl (by unfold stM; rw [if_neg kx, if_pos (by rw [← hk]; exact c_112)])
theorem tl_st0 {G : GG} {m : Mem} (h3 : inI (m 34 0 3)) (hB : RB m) (hC : CB m)  : X G MX3_readStatement (rmD 6) 61 [(1, .int (iI (stA m))), (0, rf G 34 0)] [] (hp (st1 m)) 0 0 (.inl none) (hp (stM m)) := by
  have hB1 := RB_st1 hB
  have b1 := hB1.1
  have b2 := hB1.2.1
  have b3 := (RB_sc (p := bS) hB).2.1
  have b5 : skM m 34 0 5 = m 34 0 5 := scM_j (by decide)
  have b6 : st1 m 34 0 5 = m 34 0 5 := st1_j (by decide)
  have ba : 0 ≤ stA m ∧ stA m ≤ 500 := by unfold stA; exact ⟨b3.1, by have := b3.2; have := hB.1; have : (scM m bS) 34 0 5 = m 34 0 5 := scM_j (by decide); show scM m bS 34 0 6 ≤ 500; omega⟩
  have bk := kdN_b (st1 m 35 0) (stA m) (st1 m 34 0 6)
  have bk2 : -1 ≤ stK m ∧ stK m ≤ 6 := bk
  have hC1 := CB_st1 hC
  have n2 := hC1.1
  have n3 := hC1.2.1
  have n4 := hC1.2.2.1
  have n5 := hC1.2.2.2.1
  have n6 := hC1.2.2.2.2.1
  have n1 := hC1.2.2.2.2.2.1
  have e3 : st1 m 34 0 3 = m 34 0 3 := st1_j (by decide)
  refine x_aload_n (pc := 61) dX3_readStatement_61 1 rfl ?_
  refine x_iload_n (pc := 62) dX3_readStatement_62 0 rfl ?_
  refine x_aload_n (pc := 63) dX3_readStatement_63 1 rfl ?_
  refine y_getI (pc := 64) 6 dX3_readStatement_64 flX3_54 rfl rfl rfl (by decide) ?_
  refine x_callV (pc := 67) _ dX3_readStatement_67 (ct_kind (stA m) (st1 m 34 0 6) ba ⟨b2.1, by omega⟩ hB1) lkX3_71 rfl rfl rfl rfl (mem_dom0 (by decide) (by decide)) (by decide) (Nat.le_of_ble_eq_true rfl) rfl ?_
  have ek : kdN (st1 m 35 0) (stA m) (st1 m 34 0 6) = stK m := rfl
  rw [ek]
  refine x_istore_n (pc := 70) (lv' := [(2, _), (1, _), (0, _)]) dX3_readStatement_70 rfl (by decide) rfl ?_
  refine x_iload_n (pc := 71) dX3_readStatement_71 0 rfl ?_
  refine x_iconst (pc := 72) dX3_readStatement_72 ?_
  refine x_icmp_eq (pc := 73) 100 dX3_readStatement_73 (by decide) (by unfold inI; omega) (by unfold inI; omega) (fun c_73 => ?_) (fun c_73 => ?_)
  · refine x_aload_n (pc := 100) dX3_readStatement_100 2 rfl ?_
    refine x_iconst (pc := 101) dX3_readStatement_101 ?_
    refine x_iload_n (pc := 102) dX3_readStatement_102 1 rfl ?_
    refine x_callV (pc := 103) _ dX3_readStatement_103 (ct_fail 1 (stA m) hB1) lkX3_67 rfl rfl rfl rfl (mem_dom0 (by decide) (by decide)) (by decide) (Nat.le_of_ble_eq_true rfl) rfl ?_
    exact y_vret (pc := 106) dX3_readStatement_106 rfl (by unfold stM; rw [if_pos (show stP m from Or.inl c_73)])
  · refine x_iload_n (pc := 76) dX3_readStatement_76 0 rfl ?_
    refine x_if_ne (pc := 77) 84 dX3_readStatement_77 (by decide) (by unfold inI; omega) (fun c_77 => ?_) (fun c_77 => ?_)
    · refine x_iconst (pc := 84) dX3_readStatement_84 ?_
      refine x_aload_n (pc := 85) dX3_readStatement_85 2 rfl ?_
      refine y_getI (pc := 86) 3 dX3_readStatement_86 flX3_51 rfl rfl rfl (by decide) ?_
      refine x_if_ne (pc := 89) 96 dX3_readStatement_89 (by decide) (by rw [e3]; exact h3) (fun c_89 => ?_) (fun c_89 => ?_)
      · refine x_iconst (pc := 96) dX3_readStatement_96 ?_
        refine x_icmp_eq (pc := 97) 107 dX3_readStatement_97 (by decide) (by unfold inI; decide) (by unfold inI; decide) (fun c_97 => ?_) (fun c_97 => absurd c_97 (fun z => z rfl))
        exact x_lv [0, 1, 2] rfl (tl_st rfl hB hC (by unfold stP; intro z; rcases z with z | z; exact c_73 z; exact z ⟨fun y => absurd y c_77, fun y => absurd y (by omega)⟩))
      · refine x_iconst (pc := 92) dX3_readStatement_92 ?_
        refine x_goto (pc := 93) 97 dX3_readStatement_93 (by decide) ?_
        refine x_icmp_eq (pc := 97) 107 dX3_readStatement_97 (by decide) (by unfold inI; decide) (by unfold inI; decide) (fun c_97 => absurd c_97 (by decide)) (fun c_97 => ?_)
        refine x_aload_n (pc := 100) dX3_readStatement_100 2 rfl ?_
        refine x_iconst (pc := 101) dX3_readStatement_101 ?_
        refine x_iload_n (pc := 102) dX3_readStatement_102 1 rfl ?_
        refine x_callV (pc := 103) _ dX3_readStatement_103 (ct_fail 1 (stA m) hB1) lkX3_67 rfl rfl rfl rfl (mem_dom0 (by decide) (by decide)) (by decide) (Nat.le_of_ble_eq_true rfl) rfl ?_
        exact y_vret (pc := 106) dX3_readStatement_106 rfl (by unfold stM; rw [if_pos (show stP m from Or.inr (fun z => c_77 (z.mpr (by omega))))])
    · refine x_iconst (pc := 80) dX3_readStatement_80 ?_
      refine x_goto (pc := 81) 85 dX3_readStatement_81 (by decide) ?_
      refine x_aload_n (pc := 85) dX3_readStatement_85 2 rfl ?_
      refine y_getI (pc := 86) 3 dX3_readStatement_86 flX3_51 rfl rfl rfl (by decide) ?_
      refine x_if_ne (pc := 89) 96 dX3_readStatement_89 (by decide) (by rw [e3]; exact h3) (fun c_89 => ?_) (fun c_89 => ?_)
      · refine x_iconst (pc := 96) dX3_readStatement_96 ?_
        refine x_icmp_eq (pc := 97) 107 dX3_readStatement_97 (by decide) (by unfold inI; decide) (by unfold inI; decide) (fun c_97 => absurd c_97 (by decide)) (fun c_97 => ?_)
        refine x_aload_n (pc := 100) dX3_readStatement_100 2 rfl ?_
        refine x_iconst (pc := 101) dX3_readStatement_101 ?_
        refine x_iload_n (pc := 102) dX3_readStatement_102 1 rfl ?_
        refine x_callV (pc := 103) _ dX3_readStatement_103 (ct_fail 1 (stA m) hB1) lkX3_67 rfl rfl rfl rfl (mem_dom0 (by decide) (by decide)) (by decide) (Nat.le_of_ble_eq_true rfl) rfl ?_
        exact y_vret (pc := 106) dX3_readStatement_106 rfl (by unfold stM; rw [if_pos (show stP m from Or.inr (fun z => c_89 (by rw [e3]; exact z.mp c_77)))])
      · refine x_iconst (pc := 92) dX3_readStatement_92 ?_
        refine x_goto (pc := 93) 97 dX3_readStatement_93 (by decide) ?_
        refine x_icmp_eq (pc := 97) 107 dX3_readStatement_97 (by decide) (by unfold inI; decide) (by unfold inI; decide) (fun c_97 => ?_) (fun c_97 => absurd c_97 (fun z => z rfl))
        exact x_lv [0, 1, 2] rfl (tl_st rfl hB hC (by unfold stP; intro z; rcases z with z | z; exact c_73 z; exact z ⟨fun _ => by omega, fun _ => c_77⟩))
theorem ct_st {G : GG} {m : Mem} (h3 : inI (m 34 0 3)) (hB : RB m) (hC : CB m)  : Ct G MX3_readStatement (rmD 6) [rf G 34 0] (hp (m)) (.inl none) (hp (stM m)) := by
  refine x_entry (by decide +kernel) mwX3_readStatement rfl (Nat.le_of_ble_eq_true rfl) ?_
  show X G MX3_readStatement (rmD 6) 0 [(0, rf G 34 0)] [] (hp (m)) 0 0 (.inl none) (hp (stM m))
  refine x_aload_n (pc := 0) dX3_readStatement_0 0 rfl ?_
  refine x_callV (pc := 1) _ dX3_readStatement_1 (ct_skip hB) lkX3_64 rfl rfl rfl rfl (mem_dom0 (by decide) (by decide)) (by decide) (Nat.le_of_ble_eq_true rfl) rfl ?_
  refine x_aload_n (pc := 4) dX3_readStatement_4 0 rfl ?_
  refine y_getI (pc := 5) 6 dX3_readStatement_5 flX3_54 rfl rfl rfl (by decide) ?_
  refine x_istore_n (pc := 8) (lv' := [(1, _), (0, _)]) dX3_readStatement_8 rfl (by decide) rfl ?_
  exact x_lv [0, 1] rfl (lp_let (st1 m) _ (stA m) (tl_st0 h3 hB hC) (skM m 34 0 5 - skM m 34 0 6).toNat (skM m) (RB_sc hB) (by have b3 := (RB_sc (p := bS) hB).2.1; have e : skM m = scM m bS := rfl; rw [e]; omega) rfl)
abbrev seP (m : Mem) : Prop := m 34 0 1 = 0 ∧ skM m 34 0 6 < skM m 34 0 5 ∧ m 35 0 (skM m 34 0 6) = 59
def seM (m : Mem) : Mem := if m 34 0 1 = 0 then (if skM m 34 0 6 < skM m 34 0 5 then (if m 35 0 (skM m 34 0 6) = 59 then up3 (skM m) 34 0 6 (skM m 34 0 6 + 1) else failM (skM m) 1 (skM m 34 0 6)) else skM m) else m
theorem ct_semi {G : GG} {m : Mem} (hB : RB m)  : Ct G MX3_passSemicolon (rmD 1) [rf G 34 0] (hp (m)) (.inl (some (.int (iI (if seP m then 1 else 0))))) (hp (seM m)) := by
  refine x_entry (by decide +kernel) mwX3_passSemicolon rfl (Nat.le_of_ble_eq_true rfl) ?_
  show X G MX3_passSemicolon (rmD 1) 0 [(0, rf G 34 0)] [] (hp (m)) 0 0 (.inl (some (.int (iI (if seP m then 1 else 0))))) (hp (seM m))
  have hB1 : RB (skM m) := RB_sc hB
  have b1 := hB1.1
  have b2 := hB1.2.1
  have b4 := hB.2.2.2
  have e35 : skM m 35 = m 35 := scM_k (by decide)
  have tx : skM m 34 0 6 < skM m 34 0 5 → -128 ≤ m 35 0 (skM m 34 0 6) ∧ m 35 0 (skM m 34 0 6) < 128 := fun _ => hB.2.2.1 (skM m 34 0 6) (by omega) (by omega)
  refine x_aload_n (pc := 0) dX3_passSemicolon_0 0 rfl ?_
  refine y_getI (pc := 1) 1 dX3_passSemicolon_1 flX3_45 rfl rfl rfl (by decide) ?_
  refine x_if_eq (pc := 4) 9 dX3_passSemicolon_4 (by decide) (by unfold inI; omega) (fun c_4 => ?_) (fun c_4 => ?_)
  · refine x_aload_n (pc := 9) dX3_passSemicolon_9 0 rfl ?_
    refine x_callV (pc := 10) _ dX3_passSemicolon_10 (ct_skip hB) lkX3_64 rfl rfl rfl rfl (mem_dom0 (by decide) (by decide)) (by decide) (Nat.le_of_ble_eq_true rfl) rfl ?_
    refine x_aload_n (pc := 13) dX3_passSemicolon_13 0 rfl ?_
    refine y_getI (pc := 14) 6 dX3_passSemicolon_14 flX3_54 rfl rfl rfl (by decide) ?_
    refine x_aload_n (pc := 17) dX3_passSemicolon_17 0 rfl ?_
    refine y_getI (pc := 18) 5 dX3_passSemicolon_18 flX3_27 rfl rfl rfl (by decide) ?_
    refine x_icmp_lt (pc := 21) 26 dX3_passSemicolon_21 (by decide) (by unfold inI; omega) (by unfold inI; omega) (fun c_21 => ?_) (fun c_21 => ?_)
    · refine x_aload_n (pc := 26) dX3_passSemicolon_26 0 rfl ?_
      refine y_getR (pc := 27) dX3_passSemicolon_27 flX3_23 rfl rfl rfl (by decide) ?_
      refine x_aload_n (pc := 30) dX3_passSemicolon_30 0 rfl ?_
      refine y_getI (pc := 31) 6 dX3_passSemicolon_31 flX3_54 rfl rfl rfl (by decide) ?_
      refine y_bald (pc := 34) dX3_passSemicolon_34 rfl (by decide) (by omega) ?_
      rw [e35]
      have tx := tx c_21
      refine x_bipush (pc := 35) (z := 59) dX3_passSemicolon_35 (by decide) ?_
      refine x_icmp_eq (pc := 37) 51 dX3_passSemicolon_37 (by decide) (by unfold inI; omega) (by unfold inI; omega) (fun c_37 => ?_) (fun c_37 => ?_)
      · refine x_aload_n (pc := 51) dX3_passSemicolon_51 0 rfl ?_
        refine x_dup (pc := 52) dX3_passSemicolon_52 rfl ?_
        refine y_getI (pc := 53) 6 dX3_passSemicolon_53 flX3_54 rfl rfl rfl (by decide) ?_
        refine x_iconst (pc := 56) dX3_passSemicolon_56 ?_
        refine x_iadd (pc := 57) dX3_passSemicolon_57 ?_
        refine y_putI (pc := 58) 6 dX3_passSemicolon_58 fwX3_54 rfl rfl rfl (by decide) ?_
        refine x_iconst (pc := 61) dX3_passSemicolon_61 ?_
        exact y_z1ret (pc := 62) dX3_passSemicolon_62 rfl ⟨c_4, c_21, c_37⟩ (by unfold seM; rw [if_pos c_4, if_pos c_21, if_pos c_37])
      · refine x_aload_n (pc := 40) dX3_passSemicolon_40 0 rfl ?_
        refine x_iconst (pc := 41) dX3_passSemicolon_41 ?_
        refine x_aload_n (pc := 42) dX3_passSemicolon_42 0 rfl ?_
        refine y_getI (pc := 43) 6 dX3_passSemicolon_43 flX3_54 rfl rfl rfl (by decide) ?_
        refine x_callV (pc := 46) _ dX3_passSemicolon_46 (ct_fail 1 (skM m 34 0 6) hB1) lkX3_67 rfl rfl rfl rfl (mem_dom0 (by decide) (by decide)) (by decide) (Nat.le_of_ble_eq_true rfl) rfl ?_
        refine x_iconst (pc := 49) dX3_passSemicolon_49 ?_
        exact y_z0ret (pc := 50) dX3_passSemicolon_50 rfl (fun z => c_37 z.2.2) (by unfold seM; rw [if_pos c_4, if_pos c_21, if_neg c_37])
    · refine x_iconst (pc := 24) dX3_passSemicolon_24 ?_
      exact y_z0ret (pc := 25) dX3_passSemicolon_25 rfl (fun z => c_21 z.2.1) (by unfold seM; rw [if_pos c_4, if_neg c_21])
  · refine x_iconst (pc := 7) dX3_passSemicolon_7 ?_
    exact y_z0ret (pc := 8) dX3_passSemicolon_8 rfl (fun z => c_4 z.1) (by unfold seM; rw [if_neg c_4])
theorem RB.k {m m' : Mem} (h : RB m) (e34 : m' 34 = m 34) (e35 : m' 35 = m 35) : RB m' := by unfold RB; rw [e34, e35]; exact h
theorem addP_k {m : Mem} {p : Nat} {x y : Int} {k : Nat} (h : k ≠ 22 ∧ k ≠ 23 ∧ k ≠ 24) : addP m p x y k = m k := by unfold addP; rw [up3_k h.1, up3_k h.2.2, up3_k h.2.1]
theorem begP_k {m : Mem} {s : Nat} {q x : Int} {k : Nat} (h : k ≠ 0 ∧ k ≠ 3 ∧ k ≠ 4 ∧ k ≠ 5) : begP m s q x k = m k := by unfold begP; rw [up3_k h.1, up3_k h.2.2.2, up3_k h.2.2.1, up3_k h.2.1]
theorem begC_k {m : Mem} {s : Nat} {c x y : Int} {k : Nat} (h : k ≠ 6 ∧ k ≠ 7 ∧ k ≠ 8 ∧ k ≠ 9) : begC m s c x y k = m k := by unfold begC; rw [up3_k h.2.2.2, up3_k h.2.2.1, up3_k h.2.1, up3_k h.1]
theorem addB_k {m : Mem} {p : Nat} {a b : Int} {k : Nat} (h : k ≠ 22 ∧ k ≠ 27) : addB m p a b k = m k := by unfold addB; rw [up3_k h.1, up3_k h.2, up3_k h.2]
theorem sunL_k {p : Nat} {q g : Int} {k : Nat} (hk : k ≠ 26) : ∀ (n : Nat) (m : Mem) (h : Int), sunL m p q g h n k = m k := by
  intro n
  induction n with
  | zero => intro m h; rfl
  | succ n ih => intro m h; show sunL _ _ _ _ _ n k = _; rw [ih, up3_k hk]
theorem addU_k {m : Mem} {p : Nat} {q a b g : Int} {k : Nat} (h : k ≠ 22 ∧ k ≠ 26) : addU m p q a b g k = m k := by unfold addU; rw [up3_k h.1, sunL_k h.2]
theorem addT_k {m : Mem} {s : Nat} {q t x : Int} {k : Nat} (h : k ≠ 1 ∧ k ≠ 11 ∧ k ≠ 12 ∧ k ≠ 13 ∧ k ≠ 14) : addT m s q t x k = m k := by unfold addT; rw [up3_k h.1, up3_k h.2.2.2.2, up3_k h.2.2.2.1, up3_k h.2.2.1, up3_k h.2.1]
theorem addK_k {m : Mem} {a b x y z : Int} {k : Nat} (h : k ≠ 10 ∧ k ≠ 22 ∧ ¬ (28 ≤ k ∧ k ≤ 32)) : addK m a b x y z k = m k := by unfold addK; rw [up3_k h.2.1, up3_k h.1, up3_k (by omega), up3_k (by omega), up3_k (by omega), up3_k (by omega), up3_k (by omega)]
theorem cuL_k {r : Int} {k : Nat} (hk : k ≠ 34 ∧ k ≠ 25) : ∀ (n : Nat) (m : Mem) (i : Int), cuL m r i n k = m k := by
  intro n
  induction n with
  | zero => intro m i; rfl
  | succ n ih => intro m i; show cuL _ _ _ n k = _; rw [ih, up3_k hk.2, numM_k hk.1]
theorem RB_cuL {r : Int} : ∀ (n : Nat) (m : Mem) (i : Int), RB m → RB (cuL m r i n) := by
  intro n
  induction n with
  | zero => intro m i h; exact h
  | succ n ih => intro m i h; exact ih _ _ (RB_25 (RB_num h))
theorem cuL_j {r j : Int} (hj : j = 3 ∨ j = 5) : ∀ (n : Nat) (m : Mem) (i : Int), cuL m r i n 34 0 j = m 34 0 j := by
  intro n
  induction n with
  | zero => intro m i; rfl
  | succ n ih => intro m i; show cuL _ _ _ n 34 0 j = _; rw [ih, up3_k (by decide), numM_j hj]
/-- what a statement leaves as it was: RB, and the Reader's statement and length -/
def RK (m m' : Mem) : Prop := RB m' ∧ m' 35 = m 35 ∧ m' 34 0 3 = m 34 0 3 ∧ m' 34 0 5 = m 34 0 5
theorem RK_num {m : Mem} {lo hi : Int} (h : RB m) : RK m (numM m lo hi) := ⟨RB_num h, numM_k (by decide), numM_j (.inl rfl), numM_j (.inr rfl)⟩
theorem RK.t {m m1 m2 : Mem} (h : RK m m1) (h2 : RK m1 m2) : RK m m2 := ⟨h2.1, h2.2.1.trans h.2.1, h2.2.2.1.trans h.2.2.1, h2.2.2.2.trans h.2.2.2⟩
theorem RK.k {m m1 m2 : Mem} (h : RK m m1) (e34 : m2 34 = m1 34) (e35 : m2 35 = m1 35) : RK m m2 := ⟨h.1.k e34 e35, by rw [e35]; exact h.2.1, by rw [e34]; exact h.2.2.1, by rw [e34]; exact h.2.2.2⟩
theorem RK_fail {m : Mem} {k q : Int} (h : RB m) (hk : 0 ≤ k ∧ k ≤ 4) : RK m (failM m k q) := ⟨RB_fail h hk, failM_k (by decide), failM_j (by decide) (by decide), failM_j (by decide) (by decide)⟩
theorem RK_sc {m : Mem} {p : Int → Bool} (h : RB m) : RK m (scM m p) := ⟨RB_sc h, scM_k (by decide), scM_j (by decide), scM_j (by decide)⟩
theorem RK_tp2 {m : Mem} (h : RB m) : RK m (tp2 m) := (RK_num h).t (RK_num (RB_num h))
theorem RK_tpF {m : Mem} {c : Prop} [Decidable c] (h : RB m) : RK m (tpF m c) := by
  unfold tpF
  split
  · exact (RK_tp2 h).t (RK_fail (RB_tp2 h) (by decide))
  · exact RK_tp2 h
theorem RK_st1 {m : Mem} (h : RB m) : RK m (st1 m) := (RK_sc h).t (RK_sc (RB_sc h))
theorem RK_rd0 {m : Mem} (h : RB m) : RK m (rd0 m) := by
  have a := (RK_num (lo := 1) (hi := 10000) h).t (RK_num (lo := 1) (hi := 10000) (RB_num h))
  unfold rd0
  split
  · exact a.k (by rw [up3_k (by decide), up3_k (by decide)]) (by rw [up3_k (by decide), up3_k (by decide)])
  · exact a
theorem RK_rd1 {m : Mem} (h : RB m) : RK m (rd1 m) := by
  unfold rd1
  refine RK.k (m1 := cuL m (m 22 3 3 * 4) 0 4) ⟨RB_cuL _ _ _ h, cuL_k (by decide) _ _ _, cuL_j (.inl rfl) _ _ _, cuL_j (.inr rfl) _ _ _⟩ ?_ ?_
  · rw [up3_k (by decide)]
  · rw [up3_k (by decide)]
theorem RK_pk4 {m : Mem} (h : RB m) : RK m (pk4 m) := by
  have a : RK m (pk3 m) := ((RK_num h).t (RK_num (RB_num h))).t (RK_sc (RB_pk2 h))
  unfold pk4
  split
  · exact a.t (RK_num (RB_pk3 h))
  · exact a
theorem RK_rd2 {m : Mem} (h : RB m) : RK m (rd2 m) := by
  have a := RK_pk4 h
  unfold rd2
  split
  · exact a.k (by rw [addP_k (by decide), begP_k (by decide)]) (by rw [addP_k (by decide), begP_k (by decide)])
  · exact a
theorem RK_rd3 {m : Mem} (h : RB m) : RK m (rd3 m) := by
  have a := ((RK_tpF (c := cbP m) h).t (RK_num (lo := 0) (hi := 900) (RB_tpF h))).t (RK_num (lo := 1) (hi := 10000) (RB_num (RB_tpF h)))
  unfold rd3
  split
  · exact a.k (by rw [addB_k (by decide), begC_k (by decide)]) (by rw [addB_k (by decide), begC_k (by decide)])
  · exact a
theorem RK_rd4 {m : Mem} (h : RB m) : RK m (rd4 m) := by
  have a : RK m (npM m) := RK_num h
  have a2 := a.t (RK_num (lo := 0) (hi := 23) a.1)
  have a3 := a2.t (RK_num (lo := numV (npM m) 0 23) (hi := 23) a2.1)
  have a4 := a3.t (RK_num (lo := 1) (hi := 10000) a3.1)
  unfold rd4
  split
  · exact a4.k (addU_k (by decide)) (addU_k (by decide))
  · exact a4
theorem RK_rd5 {m : Mem} (h : RB m) : RK m (rd5 m) := by
  have a : RK m (npM m) := RK_num h
  have a2 := a.t (RK_num (lo := 0) (hi := 9999) a.1)
  have a3 := a2.t (RK_num (lo := 1) (hi := 100000) a2.1)
  unfold rd5
  split
  · exact a3.k (addT_k (by decide)) (addT_k (by decide))
  · exact a3
theorem RK_rd6 {m : Mem} (h : RB m) : RK m (rd6 m) := by
  have a := ((RK_tpF (c := ctP m) h).t (RK_num (lo := 1) (hi := 100000) (RB_tpF h))).t (RK_num (lo := 0) (hi := 99) (RB_num (RB_tpF h)))
  have a3 := a.t (RK_num (lo := 0) (hi := 99) a.1)
  unfold rd6
  split
  · exact a3.k (addK_k (by decide)) (addK_k (by decide))
  · exact a3
theorem RK_st {m : Mem} (h : RB m) : RK m (stM m) := by
  have a := RK_st1 h
  unfold stM
  split
  · exact a.t (RK_fail a.1 (by decide))
  · split
    · exact a.t (RK_fail a.1 (by decide))
    · unfold rdK
      split
      · exact a.t (RK_rd0 a.1)
      · split
        · exact a.t (RK_rd1 a.1)
        · split
          · exact a.t (RK_rd2 a.1)
          · split
            · exact a.t (RK_rd3 a.1)
            · split
              · exact a.t (RK_rd4 a.1)
              · split
                · exact a.t (RK_rd5 a.1)
                · exact a.t (RK_rd6 a.1)
theorem CB_st {m : Mem} (hB : RB m) (h : CB m) : CB (stM m) := by
  have hC1 := CB_st1 h
  have n2 := hC1.1
  have n3 := hC1.2.1
  have n4 := hC1.2.2.1
  have n5 := hC1.2.2.2.1
  have n6 := hC1.2.2.2.2.1
  have n1 := hC1.2.2.2.2.2.1
  have n7 := hC1.2.2.2.2.2.2
  have kb := kdN_b (st1 m 35 0) (stA m) (st1 m 34 0 6)
  have kb2 : -1 ≤ stK m ∧ stK m ≤ 6 := kb
  unfold stM
  split
  · exact CB_fail hC1
  · rename_i hp1
    have hk1 : stK m ≠ -1 := fun z => hp1 (Or.inl z)
    split
    · exact CB_fail hC1
    · rename_i fu
      unfold fuP at fu
      generalize st1 m = q at *
      have e22 : ∀ {lo hi : Int} {x : Mem}, numM x lo hi 22 = x 22 := numM_k (by decide)
      unfold rdK
      split
      · unfold rd0
        split
        · refine ⟨?_, ?_, ?_, ?_, ?_, ?_, ?_⟩
          · rw [up3_off (by decide), up3_off (by decide), e22, e22]; exact n2
          · rw [up3_off (by decide), up3_off (by decide), e22, e22]; exact n3
          · rw [up3_off (by decide), up3_off (by decide), e22, e22]; exact n4
          · rw [up3_off (by decide), up3_off (by decide), e22, e22]; exact n5
          · rw [up3_off (by decide), up3_off (by decide), e22, e22]; exact n6
          · rw [up3_k (by decide), up3_k (by decide), numM_k (by decide), numM_k (by decide)]; exact n1
          · rw [up3_k (by decide), up3_k (by decide), numM_k (by decide), numM_k (by decide)]; exact n7
        · exact CB_num (CB_num hC1)
      · split
        · have f3 : cuL q (q 22 3 3 * 4) 0 4 22 = q 22 := cuL_k (by decide) _ _ _
          unfold rd1
          rw [f3]
          refine ⟨?_, ?_, ?_, ?_, ?_, ?_, ?_⟩
          · rw [up3_off (by decide), f3]; exact n2
          · rw [up3_at]; omega
          · rw [up3_off (by decide), f3]; exact n4
          · rw [up3_off (by decide), f3]; exact n5
          · rw [up3_off (by decide), f3]; exact n6
          · rw [up3_k (by decide), cuL_k (by decide)]; exact n1
          · rw [up3_k (by decide), cuL_k (by decide)]; exact n7
        · split
          · have f : pk4 q 22 = q 22 := pk4_k (by decide)
            have f2 : ∀ x y, begP (pk4 q) 4 x y 22 = q 22 := fun x y => (begP_k (by decide)).trans f
            unfold rd2
            split
            · unfold addP
              rw [f2]
              refine ⟨?_, ?_, ?_, ?_, ?_, ?_, ?_⟩
              · rw [up3_at]; omega
              · rw [up3_off (by decide), up3_k (by decide), up3_k (by decide), f2]; exact n3
              · rw [up3_off (by decide), up3_k (by decide), up3_k (by decide), f2]; exact n4
              · rw [up3_off (by decide), up3_k (by decide), up3_k (by decide), f2]; exact n5
              · rw [up3_off (by decide), up3_k (by decide), up3_k (by decide), f2]; exact n6
              · rw [up3_k (by decide), up3_k (by decide), up3_k (by decide), begP_k (by decide), pk4_k (by decide)]; exact n1
              · rw [up3_k (by decide), up3_k (by decide), up3_k (by decide), begP_k (by decide), pk4_k (by decide)]; exact n7
            · exact hC1.k (pk4_k (by decide)) (pk4_k (by decide)) (pk4_k (by decide))
          · split
            · have f : ∀ {lo hi lo' hi' : Int} {k : Nat}, k ≠ 34 → numM (numM (tpF q (cbP q)) lo hi) lo' hi' k = q k := fun h => by rw [numM_k h, numM_k h, tpF_k h]
              have f2 : ∀ {lo hi lo' hi' x y z : Int} {k : Nat}, (k ≠ 34 ∧ k ≠ 6 ∧ k ≠ 7 ∧ k ≠ 8 ∧ k ≠ 9) → begC (numM (numM (tpF q (cbP q)) lo hi) lo' hi') 4 x y z k = q k := fun h => by rw [begC_k h.2, f h.1]
              unfold rd3
              split
              · rename_i hz
                have ok0 : tp2 q 34 0 1 = 0 := by
                  have z := (num_ok (num_ok hz).1).1
                  unfold tpF at z
                  split at z
                  · exact absurd z (failM_e (by decide))
                  · exact z
                unfold addB
                rw [f2 (by decide)]
                refine ⟨?_, ?_, ?_, ?_, ?_, ?_, ?_⟩
                · rw [up3_off (by decide), up3_k (by decide), up3_k (by decide), f2 (by decide)]; exact n2
                · rw [up3_off (by decide), up3_k (by decide), up3_k (by decide), f2 (by decide)]; exact n3
                · rw [up3_off (by decide), up3_k (by decide), up3_k (by decide), f2 (by decide)]; exact n4
                · rw [up3_at]; omega
                · rw [up3_off (by decide), up3_k (by decide), up3_k (by decide), f2 (by decide)]; exact n6
                · rw [up3_k (by decide), up3_k (by decide), up3_k (by decide), f2 (by decide)]; exact n1
                · rw [up3_k (by decide)]
                  intro j h0 h1
                  rw [up3_apply, up3_apply, f2 (by decide)]
                  have := n7 j h0 h1
                  split
                  · omega
                  · split <;> omega
              · exact hC1.k (f (by decide)) (f (by decide)) (f (by decide))
            · split
              · have e : ∀ {k : Nat} {a b c : Int}, k ≠ 34 → numM (numM (numM (npM q) 0 23) a b) 1 c k = q k := fun h => by rw [numM_k h, numM_k h, numM_k h, show npM q _ = q _ from numM_k h]
                unfold rd4
                split
                · unfold addU
                  refine ⟨?_, ?_, ?_, ?_, ?_, ?_, ?_⟩
                  · rw [up3_off (by decide), sunL_k (by decide), e (by decide)]; exact n2
                  · rw [up3_off (by decide), sunL_k (by decide), e (by decide)]; exact n3
                  · rw [up3_at, sunL_k (by decide), e (by decide)]; omega
                  · rw [up3_off (by decide), sunL_k (by decide), e (by decide)]; exact n5
                  · rw [up3_off (by decide), sunL_k (by decide), e (by decide)]; exact n6
                  · rw [up3_k (by decide), sunL_k (by decide), e (by decide)]; exact n1
                  · rw [up3_k (by decide), sunL_k (by decide), e (by decide)]; exact n7
                · exact hC1.k (e (by decide)) (e (by decide)) (e (by decide))
              · split
                · have e : ∀ {k : Nat} {c : Int}, k ≠ 34 → numM (numM (npM q) 0 9999) 1 c k = q k := fun h => by rw [numM_k h, numM_k h, show npM q _ = q _ from numM_k h]
                  unfold rd5
                  split
                  · unfold addT
                    refine ⟨?_, ?_, ?_, ?_, ?_, ?_, ?_⟩
                    · rw [up3_k (by decide), up3_k (by decide), up3_k (by decide), up3_k (by decide), up3_k (by decide), e (by decide)]; exact n2
                    · rw [up3_k (by decide), up3_k (by decide), up3_k (by decide), up3_k (by decide), up3_k (by decide), e (by decide)]; exact n3
                    · rw [up3_k (by decide), up3_k (by decide), up3_k (by decide), up3_k (by decide), up3_k (by decide), e (by decide)]; exact n4
                    · rw [up3_k (by decide), up3_k (by decide), up3_k (by decide), up3_k (by decide), up3_k (by decide), e (by decide)]; exact n5
                    · rw [up3_k (by decide), up3_k (by decide), up3_k (by decide), up3_k (by decide), up3_k (by decide), e (by decide)]; exact n6
                    · rw [up3_at, e (by decide)]; omega
                    · rw [up3_k (by decide), up3_k (by decide), up3_k (by decide), up3_k (by decide), up3_k (by decide), e (by decide)]; exact n7
                  · exact hC1.k (e (by decide)) (e (by decide)) (e (by decide))
                · have f : ∀ {lo hi lo' hi' a b : Int} {k : Nat}, k ≠ 34 → numM (numM (numM (tpF q (ctP q)) lo hi) lo' hi') a b k = q k := fun h => by rw [numM_k h, numM_k h, numM_k h, tpF_k h]
                  unfold rd6
                  split
                  · unfold addK
                    refine ⟨?_, ?_, ?_, ?_, ?_, ?_, ?_⟩
                    · rw [up3_off (by decide), up3_k (by decide), up3_k (by decide), up3_k (by decide), up3_k (by decide), up3_k (by decide), up3_k (by decide), f (by decide)]; exact n2
                    · rw [up3_off (by decide), up3_k (by decide), up3_k (by decide), up3_k (by decide), up3_k (by decide), up3_k (by decide), up3_k (by decide), f (by decide)]; exact n3
                    · rw [up3_off (by decide), up3_k (by decide), up3_k (by decide), up3_k (by decide), up3_k (by decide), up3_k (by decide), up3_k (by decide), f (by decide)]; exact n4
                    · rw [up3_off (by decide), up3_k (by decide), up3_k (by decide), up3_k (by decide), up3_k (by decide), up3_k (by decide), up3_k (by decide), f (by decide)]; exact n5
                    · rw [up3_at, f (by decide)]; omega
                    · rw [up3_k (by decide), up3_k (by decide), up3_k (by decide), up3_k (by decide), up3_k (by decide), up3_k (by decide), up3_k (by decide), f (by decide)]; exact n1
                    · rw [up3_k (by decide), up3_k (by decide), up3_k (by decide), up3_k (by decide), up3_k (by decide), up3_k (by decide), up3_k (by decide), f (by decide)]; exact n7
                  · exact hC1.k (f (by decide)) (f (by decide)) (f (by decide))
theorem RK_se {m : Mem} (h : RB m) : RK m (seM m) := by
  have a : RK m (skM m) := RK_sc h
  have b := a.1.2.1
  unfold seM
  split
  · split
    · split
      · exact ⟨RB_at a.1 (by omega) (by omega), a.2.1, a.2.2.1, a.2.2.2⟩
      · exact a.t (RK_fail a.1 (by decide))
    · exact a
  · exact h.1 |> fun _ => ⟨h, rfl, rfl, rfl⟩
theorem seM_k {m : Mem} {k : Nat} (hk : k ≠ 34) : seM m k = m k := by
  unfold seM
  split
  · split
    · split
      · rw [up3_k hk]; exact scM_k hk
      · rw [failM_k hk]; exact scM_k hk
    · exact scM_k hk
  · rfl
theorem CB_se {m : Mem} (h : CB m) : CB (seM m) := h.k (seM_k (by decide)) (seM_k (by decide)) (seM_k (by decide))
def nxt (m : Mem) : Mem := up3 (seM m) 34 0 3 (seM m 34 0 3 + 1)
theorem RB_nxt {m : Mem} (h : RB m) : RB (nxt m) := (RK_se h).1
theorem CB_nxt {m : Mem} (h : CB m) : CB (nxt m) := (CB_se h).k (up3_k (by decide)) (up3_k (by decide)) (up3_k (by decide))
def ldL (m : Mem) : Nat → Mem
  | 0 => m
  | n + 1 => if seP m then ldL (stM (nxt m)) n else seM m
def ld0 (m : Mem) : Mem := up3 (up3 (up3 (up3 (clrS (clrP m 3) 4) 34 0 1 0) 34 0 2 0) 34 0 3 0) 34 0 6 0
def txM (m : Mem) : Mem := up3 (ldL (stM (ld0 m)) (stM (ld0 m) 34 0 5).toNat) 34 0 5 0
theorem ld0_k {m : Mem} {k : Nat} (h : k = 35 ∨ 36 ≤ k) : ld0 m k = m k := by
  unfold ld0 clrS clrP fiA
  funext i j
  simp only [up3_apply]
  repeat rw [if_neg (by omega)]
/-- the text's bounds without the reader's place -/
def RW (m : Mem) : Prop := (0 ≤ m 34 0 5 ∧ m 34 0 5 ≤ 500) ∧ (∀ j, 0 ≤ j → j < 500 → -128 ≤ m 35 0 j ∧ m 35 0 j < 128) ∧ (0 ≤ m 34 0 1 ∧ m 34 0 1 ≤ 4)
theorem RB.w {m : Mem} (h : RB m) : RW m := ⟨h.1, h.2.2⟩
theorem RB_ld0 {m : Mem} (h : RW m) : RB (ld0 m) := by
  refine ⟨h.1, ⟨Int.le_refl _, h.1.1⟩, ?_, show (0 : Int) ≤ 0 ∧ (0 : Int) ≤ 4 by decide⟩
  rw [ld0_k (.inl rfl)]
  exact h.2.1
theorem CB_ld0 {m : Mem} : CB (ld0 m) := by
  refine ⟨?_, ?_, ?_, ?_, ?_, ?_, fun j h0 h1 => ?_⟩
  · show 0 ≤ (0 : Int) ∧ (0 : Int) ≤ 8; decide
  · show 0 ≤ (0 : Int) ∧ (0 : Int) ≤ 4; decide
  · show 0 ≤ (0 : Int) ∧ (0 : Int) ≤ 12; decide
  · show 0 ≤ (0 : Int) ∧ (0 : Int) ≤ 12; decide
  · show 0 ≤ (0 : Int) ∧ (0 : Int) ≤ 8; decide
  · show 0 ≤ (0 : Int) ∧ (0 : Int) ≤ 16; decide
  · show -1 ≤ (-1 : Int) ∧ (-1 : Int) ≤ 12; decide
theorem lp_text {G : GG} (m9 : Mem) : ∀ (n : Nat) (m : Mem), RB m → CB m → (n : Int) ≤ 500 → 0 ≤ m 34 0 3 ∧ m 34 0 3 + n ≤ 1000 → m9 = ldL m n → X G MX3_readText (rmD 7) 49 [(1, .int (iI (n : Nat))), (0, rf G 34 0)] [] (hp (m)) 0 0 (.inl none) (hp (up3 m9 34 0 5 0)) := by
  intro n
  induction n with
  | zero =>
    intro m hB hC hn h3 h9
    refine x_iload_n (pc := 49) dX3_readText_49 0 rfl ?_
    refine x_if_le (pc := 50) 80 dX3_readText_50 (by decide) (by unfold inI; omega) (fun c_50 => ?_) (fun c_50 => (by exfalso; omega))
    refine x_aload_n (pc := 80) dX3_readText_80 1 rfl ?_
    refine x_iconst (pc := 81) dX3_readText_81 ?_
    refine y_putI (pc := 82) 5 dX3_readText_82 fwX3_27 rfl rfl rfl (by decide) ?_
    exact y_vret (pc := 85) dX3_readText_85 rfl (by rw [h9]; rfl)
  | succ n ih =>
    intro m hB hC hn h3 h9
    refine x_iload_n (pc := 49) dX3_readText_49 0 rfl ?_
    refine x_if_le (pc := 50) 80 dX3_readText_50 (by decide) (by unfold inI; omega) (fun c_50 => (by exfalso; omega)) (fun c_50 => ?_)
    refine x_aload_n (pc := 53) dX3_readText_53 1 rfl ?_
    refine x_callV (pc := 54) _ dX3_readText_54 (ct_semi hB) lkX3_60 rfl rfl rfl rfl (mem_dom0 (by decide) (by decide)) (by decide) (Nat.le_of_ble_eq_true rfl) rfl ?_
    refine x_ifb_eq (pc := 57) 80 dX3_readText_57 (by decide) (fun c_57 => ?_) (fun c_57 => ?_)
    · have e9 : m9 = seM m := by rw [h9]; show (if _ then _ else _) = _; rw [if_neg c_57]
      refine x_aload_n (pc := 80) dX3_readText_80 1 rfl ?_
      refine x_iconst (pc := 81) dX3_readText_81 ?_
      refine y_putI (pc := 82) 5 dX3_readText_82 fwX3_27 rfl rfl rfl (by decide) ?_
      exact y_vret (pc := 85) dX3_readText_85 rfl (by rw [e9])
    · refine x_aload_n (pc := 60) dX3_readText_60 1 rfl ?_
      refine x_dup (pc := 61) dX3_readText_61 rfl ?_
      refine y_getI (pc := 62) 3 dX3_readText_62 flX3_51 rfl rfl rfl (by decide) ?_
      refine x_iconst (pc := 65) dX3_readText_65 ?_
      refine x_iadd (pc := 66) dX3_readText_66 ?_
      refine y_putI (pc := 67) 3 dX3_readText_67 fwX3_51 rfl rfl rfl (by decide) ?_
      refine x_aload_n (pc := 70) dX3_readText_70 1 rfl ?_
      refine x_nil (m' := nxt m) rfl ?_
      have e3 : nxt m 34 0 3 = m 34 0 3 + 1 := by unfold nxt; rw [up3_at, (RK_se hB).2.2.1]
      have e4 := (RK_st (RB_nxt hB)).2.2.1
      refine x_callV (pc := 71) _ dX3_readText_71 (ct_st (by rw [e3]; unfold inI; omega) (RB_nxt hB) (CB_nxt hC)) lkX3_57 rfl rfl rfl rfl (mem_dom0 (by decide) (by decide)) (by decide) (Nat.le_of_ble_eq_true rfl) rfl ?_
      refine x_iinc (pc := 74) (lv' := [(1, _), (0, _)]) dX3_readText_74 0 rfl (by decide) rfl ?_
      refine x_goto (pc := 77) 49 dX3_readText_77 (by decide) ?_
      have en : ((n + 1 : Nat) : Int) + (-1) = (n : Nat) := by omega
      rw [en]
      exact x_lv [0, 1] rfl (ih _ (RK_st (RB_nxt hB)).1 (CB_st (RB_nxt hB) (CB_nxt hC)) (by omega) (by rw [e4, e3]; omega) (by rw [h9]; show (if _ then _ else _) = _; rw [if_pos c_57]))
theorem ct_text {G : GG} {m : Mem} (hB : RW m)  : Ct G MX3_readText (rmD 7) [rf G 34 0] (hp (m)) (.inl none) (hp (txM m)) := by
  refine x_entry (by decide +kernel) mwX3_readText rfl (Nat.le_of_ble_eq_true rfl) ?_
  show X G MX3_readText (rmD 7) 0 [(0, rf G 34 0)] [] (hp (m)) 0 0 (.inl none) (hp (txM m))
  refine x_aload_n (pc := 0) dX3_readText_0 0 rfl ?_
  refine y_getR (pc := 1) dX3_readText_1 flX3_17 rfl rfl rfl (by decide) ?_
  refine y_getR (pc := 4) (b := 3) dX3_readText_4 flX3_31 rfl rfl rfl (by decide) ?_
  refine x_callV (pc := 7) _ dX3_readText_7 (ct_Pclear (by decide)) lkX3_35 rfl rfl rfl rfl (mem_dom0 (by decide) (by decide)) (by decide) (Nat.le_of_ble_eq_true rfl) rfl ?_
  refine x_aload_n (pc := 10) dX3_readText_10 0 rfl ?_
  refine y_getR (pc := 11) dX3_readText_11 flX3_17 rfl rfl rfl (by decide) ?_
  refine y_getR (pc := 14) (b := 4) dX3_readText_14 flX3_38 rfl rfl rfl (by decide) ?_
  refine x_callV (pc := 17) _ dX3_readText_17 (ct_Sclear (by decide)) lkX3_42 rfl rfl rfl rfl (mem_dom0 (by decide) (by decide)) (by decide) (Nat.le_of_ble_eq_true rfl) rfl ?_
  refine x_aload_n (pc := 20) dX3_readText_20 0 rfl ?_
  refine x_iconst (pc := 21) dX3_readText_21 ?_
  refine y_putI (pc := 22) 1 dX3_readText_22 fwX3_45 rfl rfl rfl (by decide) ?_
  refine x_aload_n (pc := 25) dX3_readText_25 0 rfl ?_
  refine x_iconst (pc := 26) dX3_readText_26 ?_
  refine y_putI (pc := 27) 2 dX3_readText_27 fwX3_48 rfl rfl rfl (by decide) ?_
  refine x_aload_n (pc := 30) dX3_readText_30 0 rfl ?_
  refine x_iconst (pc := 31) dX3_readText_31 ?_
  refine y_putI (pc := 32) 3 dX3_readText_32 fwX3_51 rfl rfl rfl (by decide) ?_
  refine x_aload_n (pc := 35) dX3_readText_35 0 rfl ?_
  refine x_iconst (pc := 36) dX3_readText_36 ?_
  refine y_putI (pc := 37) 6 dX3_readText_37 fwX3_54 rfl rfl rfl (by decide) ?_
  refine x_aload_n (pc := 40) dX3_readText_40 0 rfl ?_
  refine x_nil (m' := ld0 m) rfl ?_
  refine x_callV (pc := 41) _ dX3_readText_41 (ct_st (show inI (0 : Int) by unfold inI; decide) (RB_ld0 hB) CB_ld0) lkX3_57 rfl rfl rfl rfl (mem_dom0 (by decide) (by decide)) (by decide) (Nat.le_of_ble_eq_true rfl) rfl ?_
  have hR := RK_st (RB_ld0 hB)
  have hb := hR.1.1
  have e3 : stM (ld0 m) 34 0 3 = 0 := hR.2.2.1
  refine x_aload_n (pc := 44) dX3_readText_44 0 rfl ?_
  refine y_getI (pc := 45) 5 dX3_readText_45 flX3_27 rfl rfl rfl (by decide) ?_
  refine x_istore_n (pc := 48) (lv' := [(1, _), (0, _)]) dX3_readText_48 rfl (by decide) rfl ?_
  have en : stM (ld0 m) 34 0 5 = ((stM (ld0 m) 34 0 5).toNat : Int) := by omega
  have kk := lp_text (G := G) _ (stM (ld0 m) 34 0 5).toNat (stM (ld0 m)) hR.1 (CB_st (RB_ld0 hB) CB_ld0) (by omega) (by rw [e3]; omega) rfl
  rw [← en] at kk
  exact x_lv [0, 1] rfl kk
theorem P_load0 {G : GG} {m : Mem} (hB : RW m) (hz : txM m 34 0 1 ≠ 0) (hi : inI (txM m 34 0 1))  : Ct G MX7_load (rmD 9) [rf G 38 0] (hp (m)) (.inl (some (.int (iI (-100 - txM m 34 0 2))))) (hp (txM m)) := by
  refine x_entry (by decide +kernel) mwX7_load rfl (Nat.le_of_ble_eq_true rfl) ?_
  show X G MX7_load (rmD 9) 0 [(0, rf G 38 0)] [] (hp (m)) 0 0 (.inl (some (.int (iI (-100 - txM m 34 0 2))))) (hp (txM m))
  refine x_aload_n (pc := 0) dX7_load_0 0 rfl ?_
  refine y_getR (pc := 1) dX7_load_1 flX7_31 rfl rfl rfl (by decide) ?_
  refine x_callV (pc := 4) _ dX7_load_4 (ct_text hB) lkX7_54 rfl rfl rfl rfl (mem_dom0 (by decide) (by decide)) (by decide) (Nat.le_of_ble_eq_true rfl) rfl ?_
  refine x_aload_n (pc := 7) dX7_load_7 0 rfl ?_
  refine y_getR (pc := 8) dX7_load_8 flX7_31 rfl rfl rfl (by decide) ?_
  refine y_getI (pc := 11) 1 dX7_load_11 flX7_57 rfl rfl rfl (by decide) ?_
  refine x_if_eq (pc := 14) 28 dX7_load_14 (by decide) hi (fun c_14 => absurd c_14 hz) (fun c_14 => ?_)
  refine x_bipush (pc := 17) (z := (-100)) dX7_load_17 (by decide) ?_
  refine x_aload_n (pc := 19) dX7_load_19 0 rfl ?_
  refine y_getR (pc := 20) dX7_load_20 flX7_31 rfl rfl rfl (by decide) ?_
  refine y_getI (pc := 23) 2 dX7_load_23 flX7_61 rfl rfl rfl (by decide) ?_
  refine x_isub (pc := 26) dX7_load_26 ?_
  exact y_iret (pc := 27) dX7_load_27 rfl rfl rfl
theorem P_load1 {G : GG} {m : Mem} (hB : RW m) (hz : txM m 34 0 1 = 0)  : Ct G MX7_load (rmD 9) [rf G 38 0] (hp (m)) (.inl (some (.int (iI (txM m 22 3 2))))) (hp (up3 (cpS (cpP (txM m) 3 0) 4 0) 36 0 0 0)) := by
  refine x_entry (by decide +kernel) mwX7_load rfl (Nat.le_of_ble_eq_true rfl) ?_
  show X G MX7_load (rmD 9) 0 [(0, rf G 38 0)] [] (hp (m)) 0 0 (.inl (some (.int (iI (txM m 22 3 2))))) (hp (up3 (cpS (cpP (txM m) 3 0) 4 0) 36 0 0 0))
  refine x_aload_n (pc := 0) dX7_load_0 0 rfl ?_
  refine y_getR (pc := 1) dX7_load_1 flX7_31 rfl rfl rfl (by decide) ?_
  refine x_callV (pc := 4) _ dX7_load_4 (ct_text hB) lkX7_54 rfl rfl rfl rfl (mem_dom0 (by decide) (by decide)) (by decide) (Nat.le_of_ble_eq_true rfl) rfl ?_
  refine x_aload_n (pc := 7) dX7_load_7 0 rfl ?_
  refine y_getR (pc := 8) dX7_load_8 flX7_31 rfl rfl rfl (by decide) ?_
  refine y_getI (pc := 11) 1 dX7_load_11 flX7_57 rfl rfl rfl (by decide) ?_
  refine x_if_eq (pc := 14) 28 dX7_load_14 (by decide) (by rw [hz]; unfold inI; decide) (fun c_14 => ?_) (fun c_14 => absurd c_14 (fun z => z hz))
  refine x_aload_n (pc := 28) dX7_load_28 0 rfl ?_
  refine y_getR (pc := 29) dX7_load_29 flX7_15 rfl rfl rfl (by decide) ?_
  refine x_aload_n (pc := 32) dX7_load_32 0 rfl ?_
  refine y_getR (pc := 33) dX7_load_33 flX7_31 rfl rfl rfl (by decide) ?_
  refine y_getR (pc := 36) dX7_load_36 flX7_64 rfl rfl rfl (by decide) ?_
  refine x_callV (pc := 39) _ dX7_load_39 (ct_World_copyFrom (a := 4) (b := 0) (by decide) (by decide) (by decide) (by decide)) lkX7_67 rfl rfl rfl rfl (mem_dom0 (by decide) (by decide)) (by decide) (Nat.le_of_ble_eq_true rfl) rfl ?_
  refine x_aload_n (pc := 42) dX7_load_42 0 rfl ?_
  refine y_getR (pc := 43) dX7_load_43 flX7_38 rfl rfl rfl (by decide) ?_
  refine x_callV (pc := 46) _ dX7_load_46 (ct_Hclear) lkX7_71 rfl rfl rfl rfl (mem_dom0 (by decide) (by decide)) (by decide) (Nat.le_of_ble_eq_true rfl) rfl ?_
  refine x_aload_n (pc := 49) dX7_load_49 0 rfl ?_
  refine y_getR (pc := 50) dX7_load_50 flX7_15 rfl rfl rfl (by decide) ?_
  refine y_getR (pc := 53) (b := 0) dX7_load_53 flX7_21 rfl rfl rfl (by decide) ?_
  refine y_getI (pc := 56) 2 dX7_load_56 flX7_74 rfl rfl rfl (by decide) ?_
  exact y_iret (pc := 59) dX7_load_59 rfl (by rw [up3_k (by decide), cpS_k (by decide)]; exact congrFun (cpP_at (by decide)) 2) rfl
