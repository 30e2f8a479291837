theorem thr_thr {m : Mem} {a b : Int} : thr (thr m a) b = thr m b := by
  unfold thr
  funext k i j
  simp only [up3_apply]
  split <;> rfl
/-- what the model's public methods want of its row -/
def NF (N : Int → Int) : Prop := (0 ≤ N 3 ∧ N 3 ≤ 8) ∧ (0 ≤ N 7 ∧ N 7 ≤ 16) ∧ (0 ≤ N 8 ∧ N 8 ≤ 8) ∧ LNs N ∧ SU N ∧ (∀ q, 0 ≤ q → q < N 3 → PN N q ∧ QN N q ∧ (-100000000 ≤ aboveN N q ∧ aboveN N q ≤ 100000000)) ∧ (∀ c, 0 ≤ c → c < N 8 → (0 ≤ N (270 + 6 * c + 0) ∧ N (270 + 6 * c + 0) < N 3) ∧ (0 ≤ N (270 + 6 * c + 1) ∧ N (270 + 6 * c + 1) < N 3) ∧ (1 ≤ N (270 + 6 * c + 2) ∧ N (270 + 6 * c + 2) ≤ 100000) ∧ (0 ≤ N (270 + 6 * c + 5) ∧ N (270 + 6 * c + 5) ≤ 1)) ∧ (1 ≤ N 1 ∧ N 1 ≤ 10000)
def pckN (N : Int → Int) (q w : Int) : Int := if w = 0 then N (30 + 7 * q + 0) else if w = 1 then roomN N q else if w = 2 then N (30 + 7 * q + 1) else if w = 3 then N (30 + 7 * q + 2) else if w = 8 then quartN N q else N (30 + 7 * q + (w - 1))
def conN (N : Int → Int) (c w : Int) : Int := if w = 5 then sm (outFN N c) (N 9).toNat else if w = 6 then sm (openFN N c) (N 9).toNat else if w = 7 then N (270 + 6 * c + 5) else if w = 8 then sm (sumFN N c 2) (N 9).toNat else if w = 9 then sm (sumFN N c 4) (N 9).toNat else N (270 + 6 * c + w)
def loaN (N : Int → Int) (l w : Int) : Int := if w < 5 then N (318 + 7 * l + w) else if w = 5 then owedN N l else N (318 + 7 * l + (w - 1))

theorem Q_gainAt {G : GG} {m : Mem} {N : Int → Int} (hF : NF N) {a0 a1 : Int} (ha0 : inI a0) (ha1 : inI a1) (h0 : 0 ≤ a0 ∧ a0 < N 3) (h1 : 0 ≤ a1 ∧ a1 ≤ 23)  : Ct G MX8_gainAt (rmD 9) [rf G 41 0, .int (iI a0), .int (iI a1)] (hp (sr m N)) (.inl (some (.int (iI (gainN N a0 a1))))) (hp (sr (thr m 0) N)) := by
  refine x_entry (by decide +kernel) mwX8_gainAt rfl (Nat.le_of_ble_eq_true rfl) ?_
  show X G MX8_gainAt (rmD 9) 0 [(0, rf G 41 0), (1, .int (iI a0)), (2, .int (iI a1))] [] (hp (sr m N)) 0 0 (.inl (some (.int (iI (gainN N a0 a1))))) (hp (sr (thr m 0) N))
  have n8 := hF.1
  have n16 := hF.2.1
  have nc8 := hF.2.2.1
  have nl16 := hF.2.2.2.1.1
  refine x_aload_n (pc := 0) dX8_gainAt_0 0 rfl ?_
  refine x_aload_n (pc := 1) dX8_gainAt_1 0 rfl ?_
  refine x_iload_n (pc := 2) dX8_gainAt_2 1 rfl ?_
  refine x_callV (pc := 3) _ dX8_gainAt_3 (mq_isPack a0 ha0 (by omega)) lkX8_234 rfl rfl rfl rfl (mem_dom0 (by decide) (by decide)) (by decide) (Nat.le_of_ble_eq_true rfl) rfl ?_
  refine x_iconst (pc := 6) dX8_gainAt_6 ?_
  refine x_callV (pc := 7) _ dX8_gainAt_7 (mq_isThrown (b := 0 ≤ a0 ∧ a0 < N 3) 1) lkX8_227 rfl rfl rfl rfl (mem_dom0 (by decide) (by decide)) (by decide) (Nat.le_of_ble_eq_true rfl) rfl ?_
  refine x_nil (m' := sr (thr m 0) N) (by rw [if_pos h0]) ?_
  refine x_ifb_ne (pc := 10) 30 dX8_gainAt_10 (by decide) (fun c_10 => absurd c_10 (fun z => z h0)) (fun c_10 => ?_)
  refine x_aload_n (pc := 13) dX8_gainAt_13 0 rfl ?_
  refine x_iload_n (pc := 14) dX8_gainAt_14 2 rfl ?_
  refine x_i2l (pc := 15) dX8_gainAt_15 ha1 ?_
  refine x_lconst (pc := 16) (z := 0) dX8_gainAt_16 (by decide) ?_
  refine x_ldc2 (pc := 17) (z := 23) dX8_gainAt_17 kcX8_240 (by decide) ?_
  refine x_callS (pc := 20) _ dX8_gainAt_20 (mq_in a1 0 23 (by unfold inL; unfold inI at ha1; omega) (by unfold inL; omega) (by unfold inL; omega)) lkX8_44 rfl (by decide) (Nat.le_of_ble_eq_true rfl) rfl ?_
  refine x_iconst (pc := 23) dX8_gainAt_23 ?_
  refine x_callV (pc := 24) _ dX8_gainAt_24 (mq_isThrown (b := 0 ≤ a1 ∧ a1 ≤ 23) 2) lkX8_227 rfl rfl rfl rfl (mem_dom0 (by decide) (by decide)) (by decide) (Nat.le_of_ble_eq_true rfl) rfl ?_
  refine x_nil (m' := sr (thr m 0) N) (by rw [if_pos h1, thr_thr]) ?_
  refine x_ifb_eq (pc := 27) 32 dX8_gainAt_27 (by decide) (fun c_27 => ?_) (fun c_27 => absurd c_27 (fun z => z h1))
  refine x_aload_n (pc := 32) dX8_gainAt_32 0 rfl ?_
  refine x_iload_n (pc := 33) dX8_gainAt_33 1 rfl ?_
  refine x_iload_n (pc := 34) dX8_gainAt_34 2 rfl ?_
  refine x_callV (pc := 35) _ dX8_gainAt_35 (mq_gainOf a0 a1 ha0 (by omega) hF.2.2.2.2.1) lkX8_242 rfl rfl rfl rfl (mem_dom0 (by decide) (by decide)) (by decide) (Nat.le_of_ble_eq_true rfl) rfl ?_
  exact y_iret (pc := 38) dX8_gainAt_38 rfl rfl rfl

theorem Qx_gainAt_0 {G : GG} {m : Mem} {N : Int → Int} (hF : NF N) {a0 a1 : Int} (ha0 : inI a0) (ha1 : inI a1)  (h0 : ¬ (0 ≤ a0 ∧ a0 < N 3)) : Ct G MX8_gainAt (rmD 9) [rf G 41 0, .int (iI a0), .int (iI a1)] (hp (sr m N)) (.inl (some (.int (iI (0))))) (hp (sr (thr m 1) N)) := by
  refine x_entry (by decide +kernel) mwX8_gainAt rfl (Nat.le_of_ble_eq_true rfl) ?_
  show X G MX8_gainAt (rmD 9) 0 [(0, rf G 41 0), (1, .int (iI a0)), (2, .int (iI a1))] [] (hp (sr m N)) 0 0 (.inl (some (.int (iI (0))))) (hp (sr (thr m 1) N))
  have n8 := hF.1
  have n16 := hF.2.1
  have nc8 := hF.2.2.1
  have nl16 := hF.2.2.2.1.1
  refine x_aload_n (pc := 0) dX8_gainAt_0 0 rfl ?_
  refine x_aload_n (pc := 1) dX8_gainAt_1 0 rfl ?_
  refine x_iload_n (pc := 2) dX8_gainAt_2 1 rfl ?_
  refine x_callV (pc := 3) _ dX8_gainAt_3 (mq_isPack a0 ha0 (by omega)) lkX8_234 rfl rfl rfl rfl (mem_dom0 (by decide) (by decide)) (by decide) (Nat.le_of_ble_eq_true rfl) rfl ?_
  refine x_iconst (pc := 6) dX8_gainAt_6 ?_
  refine x_callV (pc := 7) _ dX8_gainAt_7 (mq_isThrown (b := 0 ≤ a0 ∧ a0 < N 3) 1) lkX8_227 rfl rfl rfl rfl (mem_dom0 (by decide) (by decide)) (by decide) (Nat.le_of_ble_eq_true rfl) rfl ?_
  refine x_nil (m' := sr (thr m 1) N) (by rw [if_neg h0]) ?_
  refine x_ifb_ne (pc := 10) 30 dX8_gainAt_10 (by decide) (fun c_10 => ?_) (fun c_10 => absurd c_10 (fun z => z h0))
  refine x_iconst (pc := 30) dX8_gainAt_30 ?_
  exact y_iret (pc := 31) dX8_gainAt_31 rfl rfl rfl

theorem Qx_gainAt_1 {G : GG} {m : Mem} {N : Int → Int} (hF : NF N) {a0 a1 : Int} (ha0 : inI a0) (ha1 : inI a1) (h0 : 0 ≤ a0 ∧ a0 < N 3) (h1 : ¬ (0 ≤ a1 ∧ a1 ≤ 23)) : Ct G MX8_gainAt (rmD 9) [rf G 41 0, .int (iI a0), .int (iI a1)] (hp (sr m N)) (.inl (some (.int (iI (0))))) (hp (sr (thr m 2) N)) := by
  refine x_entry (by decide +kernel) mwX8_gainAt rfl (Nat.le_of_ble_eq_true rfl) ?_
  show X G MX8_gainAt (rmD 9) 0 [(0, rf G 41 0), (1, .int (iI a0)), (2, .int (iI a1))] [] (hp (sr m N)) 0 0 (.inl (some (.int (iI (0))))) (hp (sr (thr m 2) N))
  have n8 := hF.1
  have n16 := hF.2.1
  have nc8 := hF.2.2.1
  have nl16 := hF.2.2.2.1.1
  refine x_aload_n (pc := 0) dX8_gainAt_0 0 rfl ?_
  refine x_aload_n (pc := 1) dX8_gainAt_1 0 rfl ?_
  refine x_iload_n (pc := 2) dX8_gainAt_2 1 rfl ?_
  refine x_callV (pc := 3) _ dX8_gainAt_3 (mq_isPack a0 ha0 (by omega)) lkX8_234 rfl rfl rfl rfl (mem_dom0 (by decide) (by decide)) (by decide) (Nat.le_of_ble_eq_true rfl) rfl ?_
  refine x_iconst (pc := 6) dX8_gainAt_6 ?_
  refine x_callV (pc := 7) _ dX8_gainAt_7 (mq_isThrown (b := 0 ≤ a0 ∧ a0 < N 3) 1) lkX8_227 rfl rfl rfl rfl (mem_dom0 (by decide) (by decide)) (by decide) (Nat.le_of_ble_eq_true rfl) rfl ?_
  refine x_nil (m' := sr (thr m 0) N) (by rw [if_pos h0]) ?_
  refine x_ifb_ne (pc := 10) 30 dX8_gainAt_10 (by decide) (fun c_10 => absurd c_10 (fun z => z h0)) (fun c_10 => ?_)
  refine x_aload_n (pc := 13) dX8_gainAt_13 0 rfl ?_
  refine x_iload_n (pc := 14) dX8_gainAt_14 2 rfl ?_
  refine x_i2l (pc := 15) dX8_gainAt_15 ha1 ?_
  refine x_lconst (pc := 16) (z := 0) dX8_gainAt_16 (by decide) ?_
  refine x_ldc2 (pc := 17) (z := 23) dX8_gainAt_17 kcX8_240 (by decide) ?_
  refine x_callS (pc := 20) _ dX8_gainAt_20 (mq_in a1 0 23 (by unfold inL; unfold inI at ha1; omega) (by unfold inL; omega) (by unfold inL; omega)) lkX8_44 rfl (by decide) (Nat.le_of_ble_eq_true rfl) rfl ?_
  refine x_iconst (pc := 23) dX8_gainAt_23 ?_
  refine x_callV (pc := 24) _ dX8_gainAt_24 (mq_isThrown (b := 0 ≤ a1 ∧ a1 ≤ 23) 2) lkX8_227 rfl rfl rfl rfl (mem_dom0 (by decide) (by decide)) (by decide) (Nat.le_of_ble_eq_true rfl) rfl ?_
  refine x_nil (m' := sr (thr m 2) N) (by rw [if_neg h1, thr_thr]) ?_
  refine x_ifb_eq (pc := 27) 32 dX8_gainAt_27 (by decide) (fun c_27 => absurd c_27 (fun z => z h1)) (fun c_27 => ?_)
  refine x_iconst (pc := 30) dX8_gainAt_30 ?_
  exact y_iret (pc := 31) dX8_gainAt_31 rfl rfl rfl

theorem Q_pack {G : GG} {m : Mem} {N : Int → Int} (hF : NF N) {a0 a1 : Int} (ha0 : inI a0) (ha1 : inI a1) (h0 : 0 ≤ a0 ∧ a0 < N 3) (h1 : 0 ≤ a1 ∧ a1 ≤ 8)  : Ct G MX8_pack (rmD 9) [rf G 41 0, .int (iI a0), .int (iI a1)] (hp (sr m N)) (.inl (some (.int (iI (pckN N a0 a1))))) (hp (sr (thr m 0) N)) := by
  refine x_entry (by decide +kernel) mwX8_pack rfl (Nat.le_of_ble_eq_true rfl) ?_
  show X G MX8_pack (rmD 9) 0 [(0, rf G 41 0), (1, .int (iI a0)), (2, .int (iI a1))] [] (hp (sr m N)) 0 0 (.inl (some (.int (iI (pckN N a0 a1))))) (hp (sr (thr m 0) N))
  have n8 := hF.1
  have n16 := hF.2.1
  have nc8 := hF.2.2.1
  have nl16 := hF.2.2.2.1.1
  have pq := (hF.2.2.2.2.2.1 a0 h0.1 h0.2).1
  have qq := (hF.2.2.2.2.2.1 a0 h0.1 h0.2).2.1
  refine x_aload_n (pc := 0) dX8_pack_0 0 rfl ?_
  refine x_aload_n (pc := 1) dX8_pack_1 0 rfl ?_
  refine x_iload_n (pc := 2) dX8_pack_2 1 rfl ?_
  refine x_callV (pc := 3) _ dX8_pack_3 (mq_isPack a0 ha0 (by omega)) lkX8_234 rfl rfl rfl rfl (mem_dom0 (by decide) (by decide)) (by decide) (Nat.le_of_ble_eq_true rfl) rfl ?_
  refine x_iconst (pc := 6) dX8_pack_6 ?_
  refine x_callV (pc := 7) _ dX8_pack_7 (mq_isThrown (b := 0 ≤ a0 ∧ a0 < N 3) 1) lkX8_227 rfl rfl rfl rfl (mem_dom0 (by decide) (by decide)) (by decide) (Nat.le_of_ble_eq_true rfl) rfl ?_
  refine x_nil (m' := sr (thr m 0) N) (by rw [if_pos h0]) ?_
  refine x_ifb_ne (pc := 10) 30 dX8_pack_10 (by decide) (fun c_10 => absurd c_10 (fun z => z h0)) (fun c_10 => ?_)
  refine x_aload_n (pc := 13) dX8_pack_13 0 rfl ?_
  refine x_iload_n (pc := 14) dX8_pack_14 2 rfl ?_
  refine x_i2l (pc := 15) dX8_pack_15 ha1 ?_
  refine x_lconst (pc := 16) (z := 0) dX8_pack_16 (by decide) ?_
  refine x_ldc2 (pc := 17) (z := 8) dX8_pack_17 kcX8_225 (by decide) ?_
  refine x_callS (pc := 20) _ dX8_pack_20 (mq_in a1 0 8 (by unfold inL; unfold inI at ha1; omega) (by unfold inL; omega) (by unfold inL; omega)) lkX8_44 rfl (by decide) (Nat.le_of_ble_eq_true rfl) rfl ?_
  refine x_iconst (pc := 23) dX8_pack_23 ?_
  refine x_callV (pc := 24) _ dX8_pack_24 (mq_isThrown (b := 0 ≤ a1 ∧ a1 ≤ 8) 2) lkX8_227 rfl rfl rfl rfl (mem_dom0 (by decide) (by decide)) (by decide) (Nat.le_of_ble_eq_true rfl) rfl ?_
  refine x_nil (m' := sr (thr m 0) N) (by rw [if_pos h1, thr_thr]) ?_
  refine x_ifb_eq (pc := 27) 32 dX8_pack_27 (by decide) (fun c_27 => ?_) (fun c_27 => absurd c_27 (fun z => z h1))
  refine x_iload_n (pc := 32) dX8_pack_32 2 rfl ?_
  by_cases w0 : a1 = 0
  · subst w0
    refine x_tabIn (pc := 33) 84 dX8_pack_33 (by unfold inI; omega) (by decide) (by decide) rfl (by decide) ?_
    refine x_aload_n (pc := 84) dX8_pack_84 0 rfl ?_
    refine x_iload_n (pc := 85) dX8_pack_85 1 rfl ?_
    refine x_iconst (pc := 86) dX8_pack_86 ?_
    refine x_callV (pc := 87) _ dX8_pack_87 (mq_ofPack (a0) 0 (by omega)) lkX8_189 rfl rfl rfl rfl (mem_dom0 (by decide) (by decide)) (by decide) (Nat.le_of_ble_eq_true rfl) rfl ?_
    exact y_iret (pc := 90) dX8_pack_90 rfl rfl rfl
  by_cases w1 : a1 = 1
  · subst w1
    refine x_tabIn (pc := 33) 91 dX8_pack_33 (by unfold inI; omega) (by decide) (by decide) rfl (by decide) ?_
    refine x_aload_n (pc := 91) dX8_pack_91 0 rfl ?_
    refine x_iload_n (pc := 92) dX8_pack_92 1 rfl ?_
    refine x_callV (pc := 93) _ dX8_pack_93 (mq_roomOf a0 pq) lkX8_199 rfl rfl rfl rfl (mem_dom0 (by decide) (by decide)) (by decide) (Nat.le_of_ble_eq_true rfl) rfl ?_
    exact y_iret (pc := 96) dX8_pack_96 rfl rfl rfl
  by_cases w2 : a1 = 2
  · subst w2
    refine x_tabIn (pc := 33) 97 dX8_pack_33 (by unfold inI; omega) (by decide) (by decide) rfl (by decide) ?_
    refine x_aload_n (pc := 97) dX8_pack_97 0 rfl ?_
    refine x_iload_n (pc := 98) dX8_pack_98 1 rfl ?_
    refine x_iconst (pc := 99) dX8_pack_99 ?_
    refine x_callV (pc := 100) _ dX8_pack_100 (mq_ofPack (a0) 1 (by omega)) lkX8_189 rfl rfl rfl rfl (mem_dom0 (by decide) (by decide)) (by decide) (Nat.le_of_ble_eq_true rfl) rfl ?_
    exact y_iret (pc := 103) dX8_pack_103 rfl rfl rfl
  by_cases w3 : a1 = 3
  · subst w3
    refine x_tabIn (pc := 33) 104 dX8_pack_33 (by unfold inI; omega) (by decide) (by decide) rfl (by decide) ?_
    refine x_aload_n (pc := 104) dX8_pack_104 0 rfl ?_
    refine x_iload_n (pc := 105) dX8_pack_105 1 rfl ?_
    refine x_iconst (pc := 106) dX8_pack_106 ?_
    refine x_callV (pc := 107) _ dX8_pack_107 (mq_ofPack (a0) 2 (by omega)) lkX8_189 rfl rfl rfl rfl (mem_dom0 (by decide) (by decide)) (by decide) (Nat.le_of_ble_eq_true rfl) rfl ?_
    exact y_iret (pc := 110) dX8_pack_110 rfl rfl rfl
  by_cases w4 : a1 = 4
  · subst w4
    refine x_tabIn (pc := 33) 117 dX8_pack_33 (by unfold inI; omega) (by decide) (by decide) rfl (by decide) ?_
    refine x_aload_n (pc := 117) dX8_pack_117 0 rfl ?_
    refine x_iload_n (pc := 118) dX8_pack_118 1 rfl ?_
    refine x_iload_n (pc := 119) dX8_pack_119 2 rfl ?_
    refine x_iconst (pc := 120) dX8_pack_120 ?_
    refine x_isub (pc := 121) dX8_pack_121 ?_
    refine x_callV (pc := 122) _ dX8_pack_122 (mq_ofPack a0 _ (by omega)) lkX8_189 rfl rfl rfl rfl (mem_dom0 (by decide) (by decide)) (by decide) (Nat.le_of_ble_eq_true rfl) rfl ?_
    exact y_iret (pc := 125) dX8_pack_125 rfl rfl rfl
  by_cases w5 : a1 = 5
  · subst w5
    refine x_tabIn (pc := 33) 117 dX8_pack_33 (by unfold inI; omega) (by decide) (by decide) rfl (by decide) ?_
    refine x_aload_n (pc := 117) dX8_pack_117 0 rfl ?_
    refine x_iload_n (pc := 118) dX8_pack_118 1 rfl ?_
    refine x_iload_n (pc := 119) dX8_pack_119 2 rfl ?_
    refine x_iconst (pc := 120) dX8_pack_120 ?_
    refine x_isub (pc := 121) dX8_pack_121 ?_
    refine x_callV (pc := 122) _ dX8_pack_122 (mq_ofPack a0 _ (by omega)) lkX8_189 rfl rfl rfl rfl (mem_dom0 (by decide) (by decide)) (by decide) (Nat.le_of_ble_eq_true rfl) rfl ?_
    exact y_iret (pc := 125) dX8_pack_125 rfl rfl rfl
  by_cases w6 : a1 = 6
  · subst w6
    refine x_tabIn (pc := 33) 117 dX8_pack_33 (by unfold inI; omega) (by decide) (by decide) rfl (by decide) ?_
    refine x_aload_n (pc := 117) dX8_pack_117 0 rfl ?_
    refine x_iload_n (pc := 118) dX8_pack_118 1 rfl ?_
    refine x_iload_n (pc := 119) dX8_pack_119 2 rfl ?_
    refine x_iconst (pc := 120) dX8_pack_120 ?_
    refine x_isub (pc := 121) dX8_pack_121 ?_
    refine x_callV (pc := 122) _ dX8_pack_122 (mq_ofPack a0 _ (by omega)) lkX8_189 rfl rfl rfl rfl (mem_dom0 (by decide) (by decide)) (by decide) (Nat.le_of_ble_eq_true rfl) rfl ?_
    exact y_iret (pc := 125) dX8_pack_125 rfl rfl rfl
  by_cases w7 : a1 = 7
  · subst w7
    refine x_tabIn (pc := 33) 117 dX8_pack_33 (by unfold inI; omega) (by decide) (by decide) rfl (by decide) ?_
    refine x_aload_n (pc := 117) dX8_pack_117 0 rfl ?_
    refine x_iload_n (pc := 118) dX8_pack_118 1 rfl ?_
    refine x_iload_n (pc := 119) dX8_pack_119 2 rfl ?_
    refine x_iconst (pc := 120) dX8_pack_120 ?_
    refine x_isub (pc := 121) dX8_pack_121 ?_
    refine x_callV (pc := 122) _ dX8_pack_122 (mq_ofPack a0 _ (by omega)) lkX8_189 rfl rfl rfl rfl (mem_dom0 (by decide) (by decide)) (by decide) (Nat.le_of_ble_eq_true rfl) rfl ?_
    exact y_iret (pc := 125) dX8_pack_125 rfl rfl rfl
  by_cases w8 : a1 = 8
  · subst w8
    refine x_tabIn (pc := 33) 111 dX8_pack_33 (by unfold inI; omega) (by decide) (by decide) rfl (by decide) ?_
    refine x_aload_n (pc := 111) dX8_pack_111 0 rfl ?_
    refine x_iload_n (pc := 112) dX8_pack_112 1 rfl ?_
    refine x_callV (pc := 113) _ dX8_pack_113 (mq_quarterOf a0 pq) lkX8_206 rfl rfl rfl rfl (mem_dom0 (by decide) (by decide)) (by decide) (Nat.le_of_ble_eq_true rfl) rfl ?_
    exact y_iret (pc := 116) dX8_pack_116 rfl rfl rfl
  refine x_tabOut (pc := 33) 117 dX8_pack_33 (by unfold inI; omega) (by omega) (by decide) ?_
  refine x_aload_n (pc := 117) dX8_pack_117 0 rfl ?_
  refine x_iload_n (pc := 118) dX8_pack_118 1 rfl ?_
  refine x_iload_n (pc := 119) dX8_pack_119 2 rfl ?_
  refine x_iconst (pc := 120) dX8_pack_120 ?_
  refine x_isub (pc := 121) dX8_pack_121 ?_
  refine x_callV (pc := 122) _ dX8_pack_122 (mq_ofPack a0 _ (by omega)) lkX8_189 rfl rfl rfl rfl (mem_dom0 (by decide) (by decide)) (by decide) (Nat.le_of_ble_eq_true rfl) rfl ?_
  exact y_iret (pc := 125) dX8_pack_125 rfl (by exfalso; omega) rfl

theorem Qx_pack_0 {G : GG} {m : Mem} {N : Int → Int} (hF : NF N) {a0 a1 : Int} (ha0 : inI a0) (ha1 : inI a1)  (h0 : ¬ (0 ≤ a0 ∧ a0 < N 3)) : Ct G MX8_pack (rmD 9) [rf G 41 0, .int (iI a0), .int (iI a1)] (hp (sr m N)) (.inl (some (.int (iI (0))))) (hp (sr (thr m 1) N)) := by
  refine x_entry (by decide +kernel) mwX8_pack rfl (Nat.le_of_ble_eq_true rfl) ?_
  show X G MX8_pack (rmD 9) 0 [(0, rf G 41 0), (1, .int (iI a0)), (2, .int (iI a1))] [] (hp (sr m N)) 0 0 (.inl (some (.int (iI (0))))) (hp (sr (thr m 1) N))
  have n8 := hF.1
  have n16 := hF.2.1
  have nc8 := hF.2.2.1
  have nl16 := hF.2.2.2.1.1
  refine x_aload_n (pc := 0) dX8_pack_0 0 rfl ?_
  refine x_aload_n (pc := 1) dX8_pack_1 0 rfl ?_
  refine x_iload_n (pc := 2) dX8_pack_2 1 rfl ?_
  refine x_callV (pc := 3) _ dX8_pack_3 (mq_isPack a0 ha0 (by omega)) lkX8_234 rfl rfl rfl rfl (mem_dom0 (by decide) (by decide)) (by decide) (Nat.le_of_ble_eq_true rfl) rfl ?_
  refine x_iconst (pc := 6) dX8_pack_6 ?_
  refine x_callV (pc := 7) _ dX8_pack_7 (mq_isThrown (b := 0 ≤ a0 ∧ a0 < N 3) 1) lkX8_227 rfl rfl rfl rfl (mem_dom0 (by decide) (by decide)) (by decide) (Nat.le_of_ble_eq_true rfl) rfl ?_
  refine x_nil (m' := sr (thr m 1) N) (by rw [if_neg h0]) ?_
  refine x_ifb_ne (pc := 10) 30 dX8_pack_10 (by decide) (fun c_10 => ?_) (fun c_10 => absurd c_10 (fun z => z h0))
  refine x_iconst (pc := 30) dX8_pack_30 ?_
  exact y_iret (pc := 31) dX8_pack_31 rfl rfl rfl

theorem Qx_pack_1 {G : GG} {m : Mem} {N : Int → Int} (hF : NF N) {a0 a1 : Int} (ha0 : inI a0) (ha1 : inI a1) (h0 : 0 ≤ a0 ∧ a0 < N 3) (h1 : ¬ (0 ≤ a1 ∧ a1 ≤ 8)) : Ct G MX8_pack (rmD 9) [rf G 41 0, .int (iI a0), .int (iI a1)] (hp (sr m N)) (.inl (some (.int (iI (0))))) (hp (sr (thr m 2) N)) := by
  refine x_entry (by decide +kernel) mwX8_pack rfl (Nat.le_of_ble_eq_true rfl) ?_
  show X G MX8_pack (rmD 9) 0 [(0, rf G 41 0), (1, .int (iI a0)), (2, .int (iI a1))] [] (hp (sr m N)) 0 0 (.inl (some (.int (iI (0))))) (hp (sr (thr m 2) N))
  have n8 := hF.1
  have n16 := hF.2.1
  have nc8 := hF.2.2.1
  have nl16 := hF.2.2.2.1.1
  refine x_aload_n (pc := 0) dX8_pack_0 0 rfl ?_
  refine x_aload_n (pc := 1) dX8_pack_1 0 rfl ?_
  refine x_iload_n (pc := 2) dX8_pack_2 1 rfl ?_
  refine x_callV (pc := 3) _ dX8_pack_3 (mq_isPack a0 ha0 (by omega)) lkX8_234 rfl rfl rfl rfl (mem_dom0 (by decide) (by decide)) (by decide) (Nat.le_of_ble_eq_true rfl) rfl ?_
  refine x_iconst (pc := 6) dX8_pack_6 ?_
  refine x_callV (pc := 7) _ dX8_pack_7 (mq_isThrown (b := 0 ≤ a0 ∧ a0 < N 3) 1) lkX8_227 rfl rfl rfl rfl (mem_dom0 (by decide) (by decide)) (by decide) (Nat.le_of_ble_eq_true rfl) rfl ?_
  refine x_nil (m' := sr (thr m 0) N) (by rw [if_pos h0]) ?_
  refine x_ifb_ne (pc := 10) 30 dX8_pack_10 (by decide) (fun c_10 => absurd c_10 (fun z => z h0)) (fun c_10 => ?_)
  refine x_aload_n (pc := 13) dX8_pack_13 0 rfl ?_
  refine x_iload_n (pc := 14) dX8_pack_14 2 rfl ?_
  refine x_i2l (pc := 15) dX8_pack_15 ha1 ?_
  refine x_lconst (pc := 16) (z := 0) dX8_pack_16 (by decide) ?_
  refine x_ldc2 (pc := 17) (z := 8) dX8_pack_17 kcX8_225 (by decide) ?_
  refine x_callS (pc := 20) _ dX8_pack_20 (mq_in a1 0 8 (by unfold inL; unfold inI at ha1; omega) (by unfold inL; omega) (by unfold inL; omega)) lkX8_44 rfl (by decide) (Nat.le_of_ble_eq_true rfl) rfl ?_
  refine x_iconst (pc := 23) dX8_pack_23 ?_
  refine x_callV (pc := 24) _ dX8_pack_24 (mq_isThrown (b := 0 ≤ a1 ∧ a1 ≤ 8) 2) lkX8_227 rfl rfl rfl rfl (mem_dom0 (by decide) (by decide)) (by decide) (Nat.le_of_ble_eq_true rfl) rfl ?_
  refine x_nil (m' := sr (thr m 2) N) (by rw [if_neg h1, thr_thr]) ?_
  refine x_ifb_eq (pc := 27) 32 dX8_pack_27 (by decide) (fun c_27 => absurd c_27 (fun z => z h1)) (fun c_27 => ?_)
  refine x_iconst (pc := 30) dX8_pack_30 ?_
  exact y_iret (pc := 31) dX8_pack_31 rfl rfl rfl

theorem Q_trip {G : GG} {m : Mem} {N : Int → Int} (hF : NF N) {a0 a1 : Int} (ha0 : inI a0) (ha1 : inI a1) (h0 : 0 ≤ a0 ∧ a0 < N 7) (h1 : 0 ≤ a1 ∧ a1 ≤ 3)  : Ct G MX8_trip (rmD 9) [rf G 41 0, .int (iI a0), .int (iI a1)] (hp (sr m N)) (.inl (some (.int (iI (N (206 + 4 * a0 + a1)))))) (hp (sr (thr m 0) N)) := by
  refine x_entry (by decide +kernel) mwX8_trip rfl (Nat.le_of_ble_eq_true rfl) ?_
  show X G MX8_trip (rmD 9) 0 [(0, rf G 41 0), (1, .int (iI a0)), (2, .int (iI a1))] [] (hp (sr m N)) 0 0 (.inl (some (.int (iI (N (206 + 4 * a0 + a1)))))) (hp (sr (thr m 0) N))
  have n8 := hF.1
  have n16 := hF.2.1
  have nc8 := hF.2.2.1
  have nl16 := hF.2.2.2.1.1
  refine x_aload_n (pc := 0) dX8_trip_0 0 rfl ?_
  refine x_aload_n (pc := 1) dX8_trip_1 0 rfl ?_
  refine x_iload_n (pc := 2) dX8_trip_2 1 rfl ?_
  refine x_callV (pc := 3) _ dX8_trip_3 (mq_isTrip a0 ha0 (by omega)) lkX8_245 rfl rfl rfl rfl (mem_dom0 (by decide) (by decide)) (by decide) (Nat.le_of_ble_eq_true rfl) rfl ?_
  refine x_iconst (pc := 6) dX8_trip_6 ?_
  refine x_callV (pc := 7) _ dX8_trip_7 (mq_isThrown (b := 0 ≤ a0 ∧ a0 < N 7) 1) lkX8_227 rfl rfl rfl rfl (mem_dom0 (by decide) (by decide)) (by decide) (Nat.le_of_ble_eq_true rfl) rfl ?_
  refine x_nil (m' := sr (thr m 0) N) (by rw [if_pos h0]) ?_
  refine x_ifb_ne (pc := 10) 30 dX8_trip_10 (by decide) (fun c_10 => absurd c_10 (fun z => z h0)) (fun c_10 => ?_)
  refine x_aload_n (pc := 13) dX8_trip_13 0 rfl ?_
  refine x_iload_n (pc := 14) dX8_trip_14 2 rfl ?_
  refine x_i2l (pc := 15) dX8_trip_15 ha1 ?_
  refine x_lconst (pc := 16) (z := 0) dX8_trip_16 (by decide) ?_
  refine x_ldc2 (pc := 17) (z := 3) dX8_trip_17 kcX8_195 (by decide) ?_
  refine x_callS (pc := 20) _ dX8_trip_20 (mq_in a1 0 3 (by unfold inL; unfold inI at ha1; omega) (by unfold inL; omega) (by unfold inL; omega)) lkX8_44 rfl (by decide) (Nat.le_of_ble_eq_true rfl) rfl ?_
  refine x_iconst (pc := 23) dX8_trip_23 ?_
  refine x_callV (pc := 24) _ dX8_trip_24 (mq_isThrown (b := 0 ≤ a1 ∧ a1 ≤ 3) 2) lkX8_227 rfl rfl rfl rfl (mem_dom0 (by decide) (by decide)) (by decide) (Nat.le_of_ble_eq_true rfl) rfl ?_
  refine x_nil (m' := sr (thr m 0) N) (by rw [if_pos h1, thr_thr]) ?_
  refine x_ifb_eq (pc := 27) 32 dX8_trip_27 (by decide) (fun c_27 => ?_) (fun c_27 => absurd c_27 (fun z => z h1))
  refine x_aload_n (pc := 32) dX8_trip_32 0 rfl ?_
  refine x_iload_n (pc := 33) dX8_trip_33 1 rfl ?_
  refine x_iload_n (pc := 34) dX8_trip_34 2 rfl ?_
  refine x_callV (pc := 35) _ dX8_trip_35 (mq_ofTrip a0 a1 (by omega)) lkX8_248 rfl rfl rfl rfl (mem_dom0 (by decide) (by decide)) (by decide) (Nat.le_of_ble_eq_true rfl) rfl ?_
  exact y_iret (pc := 38) dX8_trip_38 rfl rfl rfl

theorem Qx_trip_0 {G : GG} {m : Mem} {N : Int → Int} (hF : NF N) {a0 a1 : Int} (ha0 : inI a0) (ha1 : inI a1)  (h0 : ¬ (0 ≤ a0 ∧ a0 < N 7)) : Ct G MX8_trip (rmD 9) [rf G 41 0, .int (iI a0), .int (iI a1)] (hp (sr m N)) (.inl (some (.int (iI (0))))) (hp (sr (thr m 1) N)) := by
  refine x_entry (by decide +kernel) mwX8_trip rfl (Nat.le_of_ble_eq_true rfl) ?_
  show X G MX8_trip (rmD 9) 0 [(0, rf G 41 0), (1, .int (iI a0)), (2, .int (iI a1))] [] (hp (sr m N)) 0 0 (.inl (some (.int (iI (0))))) (hp (sr (thr m 1) N))
  have n8 := hF.1
  have n16 := hF.2.1
  have nc8 := hF.2.2.1
  have nl16 := hF.2.2.2.1.1
  refine x_aload_n (pc := 0) dX8_trip_0 0 rfl ?_
  refine x_aload_n (pc := 1) dX8_trip_1 0 rfl ?_
  refine x_iload_n (pc := 2) dX8_trip_2 1 rfl ?_
  refine x_callV (pc := 3) _ dX8_trip_3 (mq_isTrip a0 ha0 (by omega)) lkX8_245 rfl rfl rfl rfl (mem_dom0 (by decide) (by decide)) (by decide) (Nat.le_of_ble_eq_true rfl) rfl ?_
  refine x_iconst (pc := 6) dX8_trip_6 ?_
  refine x_callV (pc := 7) _ dX8_trip_7 (mq_isThrown (b := 0 ≤ a0 ∧ a0 < N 7) 1) lkX8_227 rfl rfl rfl rfl (mem_dom0 (by decide) (by decide)) (by decide) (Nat.le_of_ble_eq_true rfl) rfl ?_
  refine x_nil (m' := sr (thr m 1) N) (by rw [if_neg h0]) ?_
  refine x_ifb_ne (pc := 10) 30 dX8_trip_10 (by decide) (fun c_10 => ?_) (fun c_10 => absurd c_10 (fun z => z h0))
  refine x_iconst (pc := 30) dX8_trip_30 ?_
  exact y_iret (pc := 31) dX8_trip_31 rfl rfl rfl

theorem Qx_trip_1 {G : GG} {m : Mem} {N : Int → Int} (hF : NF N) {a0 a1 : Int} (ha0 : inI a0) (ha1 : inI a1) (h0 : 0 ≤ a0 ∧ a0 < N 7) (h1 : ¬ (0 ≤ a1 ∧ a1 ≤ 3)) : Ct G MX8_trip (rmD 9) [rf G 41 0, .int (iI a0), .int (iI a1)] (hp (sr m N)) (.inl (some (.int (iI (0))))) (hp (sr (thr m 2) N)) := by
  refine x_entry (by decide +kernel) mwX8_trip rfl (Nat.le_of_ble_eq_true rfl) ?_
  show X G MX8_trip (rmD 9) 0 [(0, rf G 41 0), (1, .int (iI a0)), (2, .int (iI a1))] [] (hp (sr m N)) 0 0 (.inl (some (.int (iI (0))))) (hp (sr (thr m 2) N))
  have n8 := hF.1
  have n16 := hF.2.1
  have nc8 := hF.2.2.1
  have nl16 := hF.2.2.2.1.1
  refine x_aload_n (pc := 0) dX8_trip_0 0 rfl ?_
  refine x_aload_n (pc := 1) dX8_trip_1 0 rfl ?_
  refine x_iload_n (pc := 2) dX8_trip_2 1 rfl ?_
  refine x_callV (pc := 3) _ dX8_trip_3 (mq_isTrip a0 ha0 (by omega)) lkX8_245 rfl rfl rfl rfl (mem_dom0 (by decide) (by decide)) (by decide) (Nat.le_of_ble_eq_true rfl) rfl ?_
  refine x_iconst (pc := 6) dX8_trip_6 ?_
  refine x_callV (pc := 7) _ dX8_trip_7 (mq_isThrown (b := 0 ≤ a0 ∧ a0 < N 7) 1) lkX8_227 rfl rfl rfl rfl (mem_dom0 (by decide) (by decide)) (by decide) (Nat.le_of_ble_eq_true rfl) rfl ?_
  refine x_nil (m' := sr (thr m 0) N) (by rw [if_pos h0]) ?_
  refine x_ifb_ne (pc := 10) 30 dX8_trip_10 (by decide) (fun c_10 => absurd c_10 (fun z => z h0)) (fun c_10 => ?_)
  refine x_aload_n (pc := 13) dX8_trip_13 0 rfl ?_
  refine x_iload_n (pc := 14) dX8_trip_14 2 rfl ?_
  refine x_i2l (pc := 15) dX8_trip_15 ha1 ?_
  refine x_lconst (pc := 16) (z := 0) dX8_trip_16 (by decide) ?_
  refine x_ldc2 (pc := 17) (z := 3) dX8_trip_17 kcX8_195 (by decide) ?_
  refine x_callS (pc := 20) _ dX8_trip_20 (mq_in a1 0 3 (by unfold inL; unfold inI at ha1; omega) (by unfold inL; omega) (by unfold inL; omega)) lkX8_44 rfl (by decide) (Nat.le_of_ble_eq_true rfl) rfl ?_
  refine x_iconst (pc := 23) dX8_trip_23 ?_
  refine x_callV (pc := 24) _ dX8_trip_24 (mq_isThrown (b := 0 ≤ a1 ∧ a1 ≤ 3) 2) lkX8_227 rfl rfl rfl rfl (mem_dom0 (by decide) (by decide)) (by decide) (Nat.le_of_ble_eq_true rfl) rfl ?_
  refine x_nil (m' := sr (thr m 2) N) (by rw [if_neg h1, thr_thr]) ?_
  refine x_ifb_eq (pc := 27) 32 dX8_trip_27 (by decide) (fun c_27 => absurd c_27 (fun z => z h1)) (fun c_27 => ?_)
  refine x_iconst (pc := 30) dX8_trip_30 ?_
  exact y_iret (pc := 31) dX8_trip_31 rfl rfl rfl

theorem Q_loan {G : GG} {m : Mem} {N : Int → Int} (hF : NF N) {a0 a1 : Int} (ha0 : inI a0) (ha1 : inI a1) (h0 : 0 ≤ a0 ∧ a0 < N 9) (h1 : 0 ≤ a1 ∧ a1 ≤ 7)  : Ct G MX8_loan (rmD 9) [rf G 41 0, .int (iI a0), .int (iI a1)] (hp (sr m N)) (.inl (some (.int (iI (loaN N a0 a1))))) (hp (sr (thr m 0) N)) := by
  refine x_entry (by decide +kernel) mwX8_loan rfl (Nat.le_of_ble_eq_true rfl) ?_
  show X G MX8_loan (rmD 9) 0 [(0, rf G 41 0), (1, .int (iI a0)), (2, .int (iI a1))] [] (hp (sr m N)) 0 0 (.inl (some (.int (iI (loaN N a0 a1))))) (hp (sr (thr m 0) N))
  have n8 := hF.1
  have n16 := hF.2.1
  have nc8 := hF.2.2.1
  have nl16 := hF.2.2.2.1.1
  refine x_aload_n (pc := 0) dX8_loan_0 0 rfl ?_
  refine x_aload_n (pc := 1) dX8_loan_1 0 rfl ?_
  refine x_iload_n (pc := 2) dX8_loan_2 1 rfl ?_
  refine x_callV (pc := 3) _ dX8_loan_3 (mq_isLoan a0 ha0 (by omega)) lkX8_269 rfl rfl rfl rfl (mem_dom0 (by decide) (by decide)) (by decide) (Nat.le_of_ble_eq_true rfl) rfl ?_
  refine x_iconst (pc := 6) dX8_loan_6 ?_
  refine x_callV (pc := 7) _ dX8_loan_7 (mq_isThrown (b := 0 ≤ a0 ∧ a0 < N 9) 1) lkX8_227 rfl rfl rfl rfl (mem_dom0 (by decide) (by decide)) (by decide) (Nat.le_of_ble_eq_true rfl) rfl ?_
  refine x_nil (m' := sr (thr m 0) N) (by rw [if_pos h0]) ?_
  refine x_ifb_ne (pc := 10) 30 dX8_loan_10 (by decide) (fun c_10 => absurd c_10 (fun z => z h0)) (fun c_10 => ?_)
  refine x_aload_n (pc := 13) dX8_loan_13 0 rfl ?_
  refine x_iload_n (pc := 14) dX8_loan_14 2 rfl ?_
  refine x_i2l (pc := 15) dX8_loan_15 ha1 ?_
  refine x_lconst (pc := 16) (z := 0) dX8_loan_16 (by decide) ?_
  refine x_ldc2 (pc := 17) (z := 7) dX8_loan_17 kcX8_272 (by decide) ?_
  refine x_callS (pc := 20) _ dX8_loan_20 (mq_in a1 0 7 (by unfold inL; unfold inI at ha1; omega) (by unfold inL; omega) (by unfold inL; omega)) lkX8_44 rfl (by decide) (Nat.le_of_ble_eq_true rfl) rfl ?_
  refine x_iconst (pc := 23) dX8_loan_23 ?_
  refine x_callV (pc := 24) _ dX8_loan_24 (mq_isThrown (b := 0 ≤ a1 ∧ a1 ≤ 7) 2) lkX8_227 rfl rfl rfl rfl (mem_dom0 (by decide) (by decide)) (by decide) (Nat.le_of_ble_eq_true rfl) rfl ?_
  refine x_nil (m' := sr (thr m 0) N) (by rw [if_pos h1, thr_thr]) ?_
  refine x_ifb_eq (pc := 27) 32 dX8_loan_27 (by decide) (fun c_27 => ?_) (fun c_27 => absurd c_27 (fun z => z h1))
  refine x_iload_n (pc := 32) dX8_loan_32 2 rfl ?_
  refine x_iconst (pc := 33) dX8_loan_33 ?_
  refine x_icmp_ge (pc := 34) 46 dX8_loan_34 (by decide) (by unfold inI; omega) (by unfold inI; omega) (fun c_34 => ?_) (fun c_34 => ?_)
  · refine x_iload_n (pc := 46) dX8_loan_46 2 rfl ?_
    refine x_iconst (pc := 47) dX8_loan_47 ?_
    refine x_icmp_ne (pc := 48) 59 dX8_loan_48 (by decide) (by unfold inI; omega) (by unfold inI; omega) (fun c_48 => ?_) (fun c_48 => ?_)
    · refine x_aload_n (pc := 59) dX8_loan_59 0 rfl ?_
      refine x_iload_n (pc := 60) dX8_loan_60 1 rfl ?_
      refine x_iload_n (pc := 61) dX8_loan_61 2 rfl ?_
      refine x_iconst (pc := 62) dX8_loan_62 ?_
      refine x_isub (pc := 63) dX8_loan_63 ?_
      refine x_callV (pc := 64) _ dX8_loan_64 (mq_ofLoan a0 (a1 - 1) (by omega)) lkX8_50 rfl rfl rfl rfl (mem_dom0 (by decide) (by decide)) (by decide) (Nat.le_of_ble_eq_true rfl) rfl ?_
      exact y_iret (pc := 67) dX8_loan_67 rfl (by unfold loaN; first | rw [if_pos (by omega)] | rw [if_neg (by omega), if_pos (by omega)] | rw [if_neg (by omega), if_neg (by omega)]) rfl
    · refine x_aload_n (pc := 51) dX8_loan_51 0 rfl ?_
      refine x_iload_n (pc := 52) dX8_loan_52 1 rfl ?_
      refine x_callV (pc := 53) _ dX8_loan_53 (mq_owed a0 (by omega) (hF.2.2.2.1.2 a0 h0.1 h0.2)) lkX8_254 rfl rfl rfl rfl (mem_dom0 (by decide) (by decide)) (by decide) (Nat.le_of_ble_eq_true rfl) rfl ?_
      refine x_goto (pc := 56) 67 dX8_loan_56 (by decide) ?_
      exact y_iret (pc := 67) dX8_loan_67 rfl (by unfold loaN; first | rw [if_pos (by omega)] | rw [if_neg (by omega), if_pos (by omega)] | rw [if_neg (by omega), if_neg (by omega)]) rfl
  · refine x_aload_n (pc := 37) dX8_loan_37 0 rfl ?_
    refine x_iload_n (pc := 38) dX8_loan_38 1 rfl ?_
    refine x_iload_n (pc := 39) dX8_loan_39 2 rfl ?_
    refine x_callV (pc := 40) _ dX8_loan_40 (mq_ofLoan a0 a1 (by omega)) lkX8_50 rfl rfl rfl rfl (mem_dom0 (by decide) (by decide)) (by decide) (Nat.le_of_ble_eq_true rfl) rfl ?_
    refine x_goto (pc := 43) 67 dX8_loan_43 (by decide) ?_
    exact y_iret (pc := 67) dX8_loan_67 rfl (by unfold loaN; first | rw [if_pos (by omega)] | rw [if_neg (by omega), if_pos (by omega)] | rw [if_neg (by omega), if_neg (by omega)]) rfl

theorem Qx_loan_0 {G : GG} {m : Mem} {N : Int → Int} (hF : NF N) {a0 a1 : Int} (ha0 : inI a0) (ha1 : inI a1)  (h0 : ¬ (0 ≤ a0 ∧ a0 < N 9)) : Ct G MX8_loan (rmD 9) [rf G 41 0, .int (iI a0), .int (iI a1)] (hp (sr m N)) (.inl (some (.int (iI (0))))) (hp (sr (thr m 1) N)) := by
  refine x_entry (by decide +kernel) mwX8_loan rfl (Nat.le_of_ble_eq_true rfl) ?_
  show X G MX8_loan (rmD 9) 0 [(0, rf G 41 0), (1, .int (iI a0)), (2, .int (iI a1))] [] (hp (sr m N)) 0 0 (.inl (some (.int (iI (0))))) (hp (sr (thr m 1) N))
  have n8 := hF.1
  have n16 := hF.2.1
  have nc8 := hF.2.2.1
  have nl16 := hF.2.2.2.1.1
  refine x_aload_n (pc := 0) dX8_loan_0 0 rfl ?_
  refine x_aload_n (pc := 1) dX8_loan_1 0 rfl ?_
  refine x_iload_n (pc := 2) dX8_loan_2 1 rfl ?_
  refine x_callV (pc := 3) _ dX8_loan_3 (mq_isLoan a0 ha0 (by omega)) lkX8_269 rfl rfl rfl rfl (mem_dom0 (by decide) (by decide)) (by decide) (Nat.le_of_ble_eq_true rfl) rfl ?_
  refine x_iconst (pc := 6) dX8_loan_6 ?_
  refine x_callV (pc := 7) _ dX8_loan_7 (mq_isThrown (b := 0 ≤ a0 ∧ a0 < N 9) 1) lkX8_227 rfl rfl rfl rfl (mem_dom0 (by decide) (by decide)) (by decide) (Nat.le_of_ble_eq_true rfl) rfl ?_
  refine x_nil (m' := sr (thr m 1) N) (by rw [if_neg h0]) ?_
  refine x_ifb_ne (pc := 10) 30 dX8_loan_10 (by decide) (fun c_10 => ?_) (fun c_10 => absurd c_10 (fun z => z h0))
  refine x_iconst (pc := 30) dX8_loan_30 ?_
  exact y_iret (pc := 31) dX8_loan_31 rfl rfl rfl

theorem Qx_loan_1 {G : GG} {m : Mem} {N : Int → Int} (hF : NF N) {a0 a1 : Int} (ha0 : inI a0) (ha1 : inI a1) (h0 : 0 ≤ a0 ∧ a0 < N 9) (h1 : ¬ (0 ≤ a1 ∧ a1 ≤ 7)) : Ct G MX8_loan (rmD 9) [rf G 41 0, .int (iI a0), .int (iI a1)] (hp (sr m N)) (.inl (some (.int (iI (0))))) (hp (sr (thr m 2) N)) := by
  refine x_entry (by decide +kernel) mwX8_loan rfl (Nat.le_of_ble_eq_true rfl) ?_
  show X G MX8_loan (rmD 9) 0 [(0, rf G 41 0), (1, .int (iI a0)), (2, .int (iI a1))] [] (hp (sr m N)) 0 0 (.inl (some (.int (iI (0))))) (hp (sr (thr m 2) N))
  have n8 := hF.1
  have n16 := hF.2.1
  have nc8 := hF.2.2.1
  have nl16 := hF.2.2.2.1.1
  refine x_aload_n (pc := 0) dX8_loan_0 0 rfl ?_
  refine x_aload_n (pc := 1) dX8_loan_1 0 rfl ?_
  refine x_iload_n (pc := 2) dX8_loan_2 1 rfl ?_
  refine x_callV (pc := 3) _ dX8_loan_3 (mq_isLoan a0 ha0 (by omega)) lkX8_269 rfl rfl rfl rfl (mem_dom0 (by decide) (by decide)) (by decide) (Nat.le_of_ble_eq_true rfl) rfl ?_
  refine x_iconst (pc := 6) dX8_loan_6 ?_
  refine x_callV (pc := 7) _ dX8_loan_7 (mq_isThrown (b := 0 ≤ a0 ∧ a0 < N 9) 1) lkX8_227 rfl rfl rfl rfl (mem_dom0 (by decide) (by decide)) (by decide) (Nat.le_of_ble_eq_true rfl) rfl ?_
  refine x_nil (m' := sr (thr m 0) N) (by rw [if_pos h0]) ?_
  refine x_ifb_ne (pc := 10) 30 dX8_loan_10 (by decide) (fun c_10 => absurd c_10 (fun z => z h0)) (fun c_10 => ?_)
  refine x_aload_n (pc := 13) dX8_loan_13 0 rfl ?_
  refine x_iload_n (pc := 14) dX8_loan_14 2 rfl ?_
  refine x_i2l (pc := 15) dX8_loan_15 ha1 ?_
  refine x_lconst (pc := 16) (z := 0) dX8_loan_16 (by decide) ?_
  refine x_ldc2 (pc := 17) (z := 7) dX8_loan_17 kcX8_272 (by decide) ?_
  refine x_callS (pc := 20) _ dX8_loan_20 (mq_in a1 0 7 (by unfold inL; unfold inI at ha1; omega) (by unfold inL; omega) (by unfold inL; omega)) lkX8_44 rfl (by decide) (Nat.le_of_ble_eq_true rfl) rfl ?_
  refine x_iconst (pc := 23) dX8_loan_23 ?_
  refine x_callV (pc := 24) _ dX8_loan_24 (mq_isThrown (b := 0 ≤ a1 ∧ a1 ≤ 7) 2) lkX8_227 rfl rfl rfl rfl (mem_dom0 (by decide) (by decide)) (by decide) (Nat.le_of_ble_eq_true rfl) rfl ?_
  refine x_nil (m' := sr (thr m 2) N) (by rw [if_neg h1, thr_thr]) ?_
  refine x_ifb_eq (pc := 27) 32 dX8_loan_27 (by decide) (fun c_27 => absurd c_27 (fun z => z h1)) (fun c_27 => ?_)
  refine x_iconst (pc := 30) dX8_loan_30 ?_
  exact y_iret (pc := 31) dX8_loan_31 rfl rfl rfl

theorem Q_interest {G : GG} {m : Mem} {N : Int → Int} (hF : NF N) {a0 a1 : Int} (ha0 : inI a0) (ha1 : inI a1) (h0 : 0 ≤ a0 ∧ a0 < N 8) (h1 : 1 ≤ a1 ∧ a1 ≤ 100000)  : Ct G MX8_interest (rmD 9) [rf G 41 0, .int (iI a0), .int (iI a1)] (hp (sr m N)) (.inl (some (.int (iI (intN N (pfN N (N (270 + 6 * a0 + 0)) a1)))))) (hp (sr (thr m 0) N)) := by
  refine x_entry (by decide +kernel) mwX8_interest rfl (Nat.le_of_ble_eq_true rfl) ?_
  show X G MX8_interest (rmD 9) 0 [(0, rf G 41 0), (1, .int (iI a0)), (2, .int (iI a1))] [] (hp (sr m N)) 0 0 (.inl (some (.int (iI (intN N (pfN N (N (270 + 6 * a0 + 0)) a1)))))) (hp (sr (thr m 0) N))
  have n8 := hF.1
  have n16 := hF.2.1
  have nc8 := hF.2.2.1
  have nl16 := hF.2.2.2.1.1
  have kc := hF.2.2.2.2.2.2.1 a0 h0.1 h0.2
  have kc0 := kc.1
  have kp := hF.2.2.2.2.2.1 _ kc0.1 kc0.2
  refine x_aload_n (pc := 0) dX8_interest_0 0 rfl ?_
  refine x_aload_n (pc := 1) dX8_interest_1 0 rfl ?_
  refine x_iload_n (pc := 2) dX8_interest_2 1 rfl ?_
  refine x_callV (pc := 3) _ dX8_interest_3 (mq_isContract a0 ha0 (by omega)) lkX8_257 rfl rfl rfl rfl (mem_dom0 (by decide) (by decide)) (by decide) (Nat.le_of_ble_eq_true rfl) rfl ?_
  refine x_iconst (pc := 6) dX8_interest_6 ?_
  refine x_callV (pc := 7) _ dX8_interest_7 (mq_isThrown (b := 0 ≤ a0 ∧ a0 < N 8) 1) lkX8_227 rfl rfl rfl rfl (mem_dom0 (by decide) (by decide)) (by decide) (Nat.le_of_ble_eq_true rfl) rfl ?_
  refine x_nil (m' := sr (thr m 0) N) (by rw [if_pos h0]) ?_
  refine x_ifb_ne (pc := 10) 25 dX8_interest_10 (by decide) (fun c_10 => absurd c_10 (fun z => z h0)) (fun c_10 => ?_)
  refine x_aload_n (pc := 13) dX8_interest_13 0 rfl ?_
  refine x_iload_n (pc := 14) dX8_interest_14 2 rfl ?_
  refine x_callS (pc := 15) _ dX8_interest_15 (mq_isAmount a1 ha1) lkX8_281 rfl (by decide) (Nat.le_of_ble_eq_true rfl) rfl ?_
  refine x_iconst (pc := 18) dX8_interest_18 ?_
  refine x_callV (pc := 19) _ dX8_interest_19 (mq_isThrown (b := 1 ≤ a1 ∧ a1 ≤ 100000) 2) lkX8_227 rfl rfl rfl rfl (mem_dom0 (by decide) (by decide)) (by decide) (Nat.le_of_ble_eq_true rfl) rfl ?_
  refine x_nil (m' := sr (thr m 0) N) (by rw [if_pos h1, thr_thr]) ?_
  refine x_ifb_eq (pc := 22) 27 dX8_interest_22 (by decide) (fun c_22 => ?_) (fun c_22 => absurd c_22 (fun z => z h1))
  refine x_aload_n (pc := 27) dX8_interest_27 0 rfl ?_
  refine x_iload_n (pc := 28) dX8_interest_28 1 rfl ?_
  refine x_iload_n (pc := 29) dX8_interest_29 2 rfl ?_
  refine x_callV (pc := 30) _ dX8_interest_30 (mq_interestFor a0 a1 (by omega) kp.1 kp.2.1 (by omega) hF.2.2.2.2.2.2.2) lkX8_284 rfl rfl rfl rfl (mem_dom0 (by decide) (by decide)) (by decide) (Nat.le_of_ble_eq_true rfl) rfl ?_
  exact y_iret (pc := 33) dX8_interest_33 rfl rfl rfl

theorem Qx_interest_0 {G : GG} {m : Mem} {N : Int → Int} (hF : NF N) {a0 a1 : Int} (ha0 : inI a0) (ha1 : inI a1)  (h0 : ¬ (0 ≤ a0 ∧ a0 < N 8)) : Ct G MX8_interest (rmD 9) [rf G 41 0, .int (iI a0), .int (iI a1)] (hp (sr m N)) (.inl (some (.int (iI (0))))) (hp (sr (thr m 1) N)) := by
  refine x_entry (by decide +kernel) mwX8_interest rfl (Nat.le_of_ble_eq_true rfl) ?_
  show X G MX8_interest (rmD 9) 0 [(0, rf G 41 0), (1, .int (iI a0)), (2, .int (iI a1))] [] (hp (sr m N)) 0 0 (.inl (some (.int (iI (0))))) (hp (sr (thr m 1) N))
  have n8 := hF.1
  have n16 := hF.2.1
  have nc8 := hF.2.2.1
  have nl16 := hF.2.2.2.1.1
  refine x_aload_n (pc := 0) dX8_interest_0 0 rfl ?_
  refine x_aload_n (pc := 1) dX8_interest_1 0 rfl ?_
  refine x_iload_n (pc := 2) dX8_interest_2 1 rfl ?_
  refine x_callV (pc := 3) _ dX8_interest_3 (mq_isContract a0 ha0 (by omega)) lkX8_257 rfl rfl rfl rfl (mem_dom0 (by decide) (by decide)) (by decide) (Nat.le_of_ble_eq_true rfl) rfl ?_
  refine x_iconst (pc := 6) dX8_interest_6 ?_
  refine x_callV (pc := 7) _ dX8_interest_7 (mq_isThrown (b := 0 ≤ a0 ∧ a0 < N 8) 1) lkX8_227 rfl rfl rfl rfl (mem_dom0 (by decide) (by decide)) (by decide) (Nat.le_of_ble_eq_true rfl) rfl ?_
  refine x_nil (m' := sr (thr m 1) N) (by rw [if_neg h0]) ?_
  refine x_ifb_ne (pc := 10) 25 dX8_interest_10 (by decide) (fun c_10 => ?_) (fun c_10 => absurd c_10 (fun z => z h0))
  refine x_iconst (pc := 25) dX8_interest_25 ?_
  exact y_iret (pc := 26) dX8_interest_26 rfl rfl rfl

theorem Qx_interest_1 {G : GG} {m : Mem} {N : Int → Int} (hF : NF N) {a0 a1 : Int} (ha0 : inI a0) (ha1 : inI a1) (h0 : 0 ≤ a0 ∧ a0 < N 8) (h1 : ¬ (1 ≤ a1 ∧ a1 ≤ 100000)) : Ct G MX8_interest (rmD 9) [rf G 41 0, .int (iI a0), .int (iI a1)] (hp (sr m N)) (.inl (some (.int (iI (0))))) (hp (sr (thr m 2) N)) := by
  refine x_entry (by decide +kernel) mwX8_interest rfl (Nat.le_of_ble_eq_true rfl) ?_
  show X G MX8_interest (rmD 9) 0 [(0, rf G 41 0), (1, .int (iI a0)), (2, .int (iI a1))] [] (hp (sr m N)) 0 0 (.inl (some (.int (iI (0))))) (hp (sr (thr m 2) N))
  have n8 := hF.1
  have n16 := hF.2.1
  have nc8 := hF.2.2.1
  have nl16 := hF.2.2.2.1.1
  refine x_aload_n (pc := 0) dX8_interest_0 0 rfl ?_
  refine x_aload_n (pc := 1) dX8_interest_1 0 rfl ?_
  refine x_iload_n (pc := 2) dX8_interest_2 1 rfl ?_
  refine x_callV (pc := 3) _ dX8_interest_3 (mq_isContract a0 ha0 (by omega)) lkX8_257 rfl rfl rfl rfl (mem_dom0 (by decide) (by decide)) (by decide) (Nat.le_of_ble_eq_true rfl) rfl ?_
  refine x_iconst (pc := 6) dX8_interest_6 ?_
  refine x_callV (pc := 7) _ dX8_interest_7 (mq_isThrown (b := 0 ≤ a0 ∧ a0 < N 8) 1) lkX8_227 rfl rfl rfl rfl (mem_dom0 (by decide) (by decide)) (by decide) (Nat.le_of_ble_eq_true rfl) rfl ?_
  refine x_nil (m' := sr (thr m 0) N) (by rw [if_pos h0]) ?_
  refine x_ifb_ne (pc := 10) 25 dX8_interest_10 (by decide) (fun c_10 => absurd c_10 (fun z => z h0)) (fun c_10 => ?_)
  refine x_aload_n (pc := 13) dX8_interest_13 0 rfl ?_
  refine x_iload_n (pc := 14) dX8_interest_14 2 rfl ?_
  refine x_callS (pc := 15) _ dX8_interest_15 (mq_isAmount a1 ha1) lkX8_281 rfl (by decide) (Nat.le_of_ble_eq_true rfl) rfl ?_
  refine x_iconst (pc := 18) dX8_interest_18 ?_
  refine x_callV (pc := 19) _ dX8_interest_19 (mq_isThrown (b := 1 ≤ a1 ∧ a1 ≤ 100000) 2) lkX8_227 rfl rfl rfl rfl (mem_dom0 (by decide) (by decide)) (by decide) (Nat.le_of_ble_eq_true rfl) rfl ?_
  refine x_nil (m' := sr (thr m 2) N) (by rw [if_neg h1, thr_thr]) ?_
  refine x_ifb_eq (pc := 22) 27 dX8_interest_22 (by decide) (fun c_22 => absurd c_22 (fun z => z h1)) (fun c_22 => ?_)
  refine x_iconst (pc := 25) dX8_interest_25 ?_
  exact y_iret (pc := 26) dX8_interest_26 rfl rfl rfl

theorem Q_owes {G : GG} {m : Mem} {N : Int → Int} (hF : NF N) {a0 : Int} (ha0 : inI a0) (h0 : 0 ≤ a0 ∧ a0 < N 3) (hC : ∀ l, 0 ≤ l → l < N 9 → inI (N (270 + 6 * N (318 + 7 * l + 0) + 1))) : Ct G MX8_owes (rmD 9) [rf G 41 0, .int (iI a0)] (hp (sr m N)) (.inl (some (.int (iI (sm (owedFN N a0 1) (N 9).toNat))))) (hp (sr (thr m 0) N)) := by
  refine x_entry (by decide +kernel) mwX8_owes rfl (Nat.le_of_ble_eq_true rfl) ?_
  show X G MX8_owes (rmD 9) 0 [(0, rf G 41 0), (1, .int (iI a0))] [] (hp (sr m N)) 0 0 (.inl (some (.int (iI (sm (owedFN N a0 1) (N 9).toNat))))) (hp (sr (thr m 0) N))
  have n8 := hF.1
  have n16 := hF.2.1
  have nc8 := hF.2.2.1
  have nl16 := hF.2.2.2.1.1
  refine x_aload_n (pc := 0) dX8_owes_0 0 rfl ?_
  refine x_aload_n (pc := 1) dX8_owes_1 0 rfl ?_
  refine x_iload_n (pc := 2) dX8_owes_2 1 rfl ?_
  refine x_callV (pc := 3) _ dX8_owes_3 (mq_isPack a0 ha0 (by omega)) lkX8_234 rfl rfl rfl rfl (mem_dom0 (by decide) (by decide)) (by decide) (Nat.le_of_ble_eq_true rfl) rfl ?_
  refine x_iconst (pc := 6) dX8_owes_6 ?_
  refine x_callV (pc := 7) _ dX8_owes_7 (mq_isThrown (b := 0 ≤ a0 ∧ a0 < N 3) 1) lkX8_227 rfl rfl rfl rfl (mem_dom0 (by decide) (by decide)) (by decide) (Nat.le_of_ble_eq_true rfl) rfl ?_
  refine x_nil (m' := sr (thr m 0) N) (by rw [if_pos h0]) ?_
  refine x_ifb_eq (pc := 10) 17 dX8_owes_10 (by decide) (fun c_10 => ?_) (fun c_10 => absurd c_10 (fun z => z h0))
  refine x_aload_n (pc := 17) dX8_owes_17 0 rfl ?_
  refine x_iload_n (pc := 18) dX8_owes_18 1 rfl ?_
  refine x_iconst (pc := 19) dX8_owes_19 ?_
  refine x_callV (pc := 20) _ dX8_owes_20 (mq_owedBy a0 1 ha0 (by omega) hF.2.2.2.1 hC) lkX8_386 rfl rfl rfl rfl (mem_dom0 (by decide) (by decide)) (by decide) (Nat.le_of_ble_eq_true rfl) rfl ?_
  exact y_iret (pc := 23) dX8_owes_23 rfl rfl rfl

theorem Qx_owes_0 {G : GG} {m : Mem} {N : Int → Int} (hF : NF N) {a0 : Int} (ha0 : inI a0)  (h0 : ¬ (0 ≤ a0 ∧ a0 < N 3)) : Ct G MX8_owes (rmD 9) [rf G 41 0, .int (iI a0)] (hp (sr m N)) (.inl (some (.int (iI (0))))) (hp (sr (thr m 1) N)) := by
  refine x_entry (by decide +kernel) mwX8_owes rfl (Nat.le_of_ble_eq_true rfl) ?_
  show X G MX8_owes (rmD 9) 0 [(0, rf G 41 0), (1, .int (iI a0))] [] (hp (sr m N)) 0 0 (.inl (some (.int (iI (0))))) (hp (sr (thr m 1) N))
  have n8 := hF.1
  have n16 := hF.2.1
  have nc8 := hF.2.2.1
  have nl16 := hF.2.2.2.1.1
  refine x_aload_n (pc := 0) dX8_owes_0 0 rfl ?_
  refine x_aload_n (pc := 1) dX8_owes_1 0 rfl ?_
  refine x_iload_n (pc := 2) dX8_owes_2 1 rfl ?_
  refine x_callV (pc := 3) _ dX8_owes_3 (mq_isPack a0 ha0 (by omega)) lkX8_234 rfl rfl rfl rfl (mem_dom0 (by decide) (by decide)) (by decide) (Nat.le_of_ble_eq_true rfl) rfl ?_
  refine x_iconst (pc := 6) dX8_owes_6 ?_
  refine x_callV (pc := 7) _ dX8_owes_7 (mq_isThrown (b := 0 ≤ a0 ∧ a0 < N 3) 1) lkX8_227 rfl rfl rfl rfl (mem_dom0 (by decide) (by decide)) (by decide) (Nat.le_of_ble_eq_true rfl) rfl ?_
  refine x_nil (m' := sr (thr m 1) N) (by rw [if_neg h0]) ?_
  refine x_ifb_eq (pc := 10) 17 dX8_owes_10 (by decide) (fun c_10 => absurd c_10 (fun z => z h0)) (fun c_10 => ?_)
  refine x_iconst (pc := 13) dX8_owes_13 ?_
  refine x_goto (pc := 14) 23 dX8_owes_14 (by decide) ?_
  exact y_iret (pc := 23) dX8_owes_23 rfl rfl rfl

theorem Q_isOwed {G : GG} {m : Mem} {N : Int → Int} (hF : NF N) {a0 : Int} (ha0 : inI a0) (h0 : 0 ≤ a0 ∧ a0 < N 3) (hC : ∀ l, 0 ≤ l → l < N 9 → inI (N (270 + 6 * N (318 + 7 * l + 0) + 0))) : Ct G MX8_isOwed (rmD 9) [rf G 41 0, .int (iI a0)] (hp (sr m N)) (.inl (some (.int (iI (sm (owedFN N a0 0) (N 9).toNat))))) (hp (sr (thr m 0) N)) := by
  refine x_entry (by decide +kernel) mwX8_isOwed rfl (Nat.le_of_ble_eq_true rfl) ?_
  show X G MX8_isOwed (rmD 9) 0 [(0, rf G 41 0), (1, .int (iI a0))] [] (hp (sr m N)) 0 0 (.inl (some (.int (iI (sm (owedFN N a0 0) (N 9).toNat))))) (hp (sr (thr m 0) N))
  have n8 := hF.1
  have n16 := hF.2.1
  have nc8 := hF.2.2.1
  have nl16 := hF.2.2.2.1.1
  refine x_aload_n (pc := 0) dX8_isOwed_0 0 rfl ?_
  refine x_aload_n (pc := 1) dX8_isOwed_1 0 rfl ?_
  refine x_iload_n (pc := 2) dX8_isOwed_2 1 rfl ?_
  refine x_callV (pc := 3) _ dX8_isOwed_3 (mq_isPack a0 ha0 (by omega)) lkX8_234 rfl rfl rfl rfl (mem_dom0 (by decide) (by decide)) (by decide) (Nat.le_of_ble_eq_true rfl) rfl ?_
  refine x_iconst (pc := 6) dX8_isOwed_6 ?_
  refine x_callV (pc := 7) _ dX8_isOwed_7 (mq_isThrown (b := 0 ≤ a0 ∧ a0 < N 3) 1) lkX8_227 rfl rfl rfl rfl (mem_dom0 (by decide) (by decide)) (by decide) (Nat.le_of_ble_eq_true rfl) rfl ?_
  refine x_nil (m' := sr (thr m 0) N) (by rw [if_pos h0]) ?_
  refine x_ifb_eq (pc := 10) 17 dX8_isOwed_10 (by decide) (fun c_10 => ?_) (fun c_10 => absurd c_10 (fun z => z h0))
  refine x_aload_n (pc := 17) dX8_isOwed_17 0 rfl ?_
  refine x_iload_n (pc := 18) dX8_isOwed_18 1 rfl ?_
  refine x_iconst (pc := 19) dX8_isOwed_19 ?_
  refine x_callV (pc := 20) _ dX8_isOwed_20 (mq_owedBy a0 0 ha0 (by omega) hF.2.2.2.1 hC) lkX8_386 rfl rfl rfl rfl (mem_dom0 (by decide) (by decide)) (by decide) (Nat.le_of_ble_eq_true rfl) rfl ?_
  exact y_iret (pc := 23) dX8_isOwed_23 rfl rfl rfl

theorem Qx_isOwed_0 {G : GG} {m : Mem} {N : Int → Int} (hF : NF N) {a0 : Int} (ha0 : inI a0)  (h0 : ¬ (0 ≤ a0 ∧ a0 < N 3)) : Ct G MX8_isOwed (rmD 9) [rf G 41 0, .int (iI a0)] (hp (sr m N)) (.inl (some (.int (iI (0))))) (hp (sr (thr m 1) N)) := by
  refine x_entry (by decide +kernel) mwX8_isOwed rfl (Nat.le_of_ble_eq_true rfl) ?_
  show X G MX8_isOwed (rmD 9) 0 [(0, rf G 41 0), (1, .int (iI a0))] [] (hp (sr m N)) 0 0 (.inl (some (.int (iI (0))))) (hp (sr (thr m 1) N))
  have n8 := hF.1
  have n16 := hF.2.1
  have nc8 := hF.2.2.1
  have nl16 := hF.2.2.2.1.1
  refine x_aload_n (pc := 0) dX8_isOwed_0 0 rfl ?_
  refine x_aload_n (pc := 1) dX8_isOwed_1 0 rfl ?_
  refine x_iload_n (pc := 2) dX8_isOwed_2 1 rfl ?_
  refine x_callV (pc := 3) _ dX8_isOwed_3 (mq_isPack a0 ha0 (by omega)) lkX8_234 rfl rfl rfl rfl (mem_dom0 (by decide) (by decide)) (by decide) (Nat.le_of_ble_eq_true rfl) rfl ?_
  refine x_iconst (pc := 6) dX8_isOwed_6 ?_
  refine x_callV (pc := 7) _ dX8_isOwed_7 (mq_isThrown (b := 0 ≤ a0 ∧ a0 < N 3) 1) lkX8_227 rfl rfl rfl rfl (mem_dom0 (by decide) (by decide)) (by decide) (Nat.le_of_ble_eq_true rfl) rfl ?_
  refine x_nil (m' := sr (thr m 1) N) (by rw [if_neg h0]) ?_
  refine x_ifb_eq (pc := 10) 17 dX8_isOwed_10 (by decide) (fun c_10 => absurd c_10 (fun z => z h0)) (fun c_10 => ?_)
  refine x_iconst (pc := 13) dX8_isOwed_13 ?_
  refine x_goto (pc := 14) 23 dX8_isOwed_14 (by decide) ?_
  exact y_iret (pc := 23) dX8_isOwed_23 rfl rfl rfl

theorem Q_now {G : GG} {m : Mem} {N : Int → Int} (hF : NF N)    : Ct G MX8_now (rmD 9) [rf G 41 0] (hp (sr m N)) (.inl (some (.int (iI (N 2))))) (hp (sr (thr m 0) N)) := by
  refine x_entry (by decide +kernel) mwX8_now rfl (Nat.le_of_ble_eq_true rfl) ?_
  show X G MX8_now (rmD 9) 0 [(0, rf G 41 0)] [] (hp (sr m N)) 0 0 (.inl (some (.int (iI (N 2))))) (hp (sr (thr m 0) N))
  have n8 := hF.1
  have n16 := hF.2.1
  have nc8 := hF.2.2.1
  have nl16 := hF.2.2.2.1.1
  refine x_aload_n (pc := 0) dX8_now_0 0 rfl ?_
  refine x_iconst (pc := 1) dX8_now_1 ?_
  refine y_putM (pc := 2) 7 dX8_now_2 fwX8_41 rfl rfl rfl ?_
  refine x_aload_n (pc := 5) dX8_now_5 0 rfl ?_
  refine y_getR (pc := 6) dX8_now_6 flX8_9 rfl rfl rfl (by decide) ?_
  refine x_iconst (pc := 9) dX8_now_9 ?_
  refine y_nald (pc := 10) dX8_now_10 (by omega) ?_
  exact y_iret (pc := 11) dX8_now_11 rfl rfl rfl

theorem Q_neediest {G : GG} {m : Mem} {N : Int → Int} (hF : NF N)    : Ct G MX8_neediest (rmD 9) [rf G 41 0] (hp (sr m N)) (.inl (some (.int (iI (farF N (-1) (-1) 0 (N 3).toNat))))) (hp (sr (thr m 0) N)) := by
  refine x_entry (by decide +kernel) mwX8_neediest rfl (Nat.le_of_ble_eq_true rfl) ?_
  show X G MX8_neediest (rmD 9) 0 [(0, rf G 41 0)] [] (hp (sr m N)) 0 0 (.inl (some (.int (iI (farF N (-1) (-1) 0 (N 3).toNat))))) (hp (sr (thr m 0) N))
  have n8 := hF.1
  have n16 := hF.2.1
  have nc8 := hF.2.2.1
  have nl16 := hF.2.2.2.1.1
  refine x_aload_n (pc := 0) dX8_neediest_0 0 rfl ?_
  refine x_iconst (pc := 1) dX8_neediest_1 ?_
  refine y_putM (pc := 2) 7 dX8_neediest_2 fwX8_41 rfl rfl rfl ?_
  refine x_aload_n (pc := 5) dX8_neediest_5 0 rfl ?_
  refine x_iconst (pc := 6) dX8_neediest_6 ?_
  refine x_callV (pc := 7) _ dX8_neediest_7 (mq_farthest (-1) (by omega) hF.1 (fun q a b => (hF.2.2.2.2.2.1 q a b).2.2)) lkX8_383 rfl rfl rfl rfl (mem_dom0 (by decide) (by decide)) (by decide) (Nat.le_of_ble_eq_true rfl) rfl ?_
  exact y_iret (pc := 10) dX8_neediest_10 rfl rfl rfl

theorem Q_richest {G : GG} {m : Mem} {N : Int → Int} (hF : NF N)    : Ct G MX8_richest (rmD 9) [rf G 41 0] (hp (sr m N)) (.inl (some (.int (iI (farF N 1 (-1) 0 (N 3).toNat))))) (hp (sr (thr m 0) N)) := by
  refine x_entry (by decide +kernel) mwX8_richest rfl (Nat.le_of_ble_eq_true rfl) ?_
  show X G MX8_richest (rmD 9) 0 [(0, rf G 41 0)] [] (hp (sr m N)) 0 0 (.inl (some (.int (iI (farF N 1 (-1) 0 (N 3).toNat))))) (hp (sr (thr m 0) N))
  have n8 := hF.1
  have n16 := hF.2.1
  have nc8 := hF.2.2.1
  have nl16 := hF.2.2.2.1.1
  refine x_aload_n (pc := 0) dX8_richest_0 0 rfl ?_
  refine x_iconst (pc := 1) dX8_richest_1 ?_
  refine y_putM (pc := 2) 7 dX8_richest_2 fwX8_41 rfl rfl rfl ?_
  refine x_aload_n (pc := 5) dX8_richest_5 0 rfl ?_
  refine x_iconst (pc := 6) dX8_richest_6 ?_
  refine x_callV (pc := 7) _ dX8_richest_7 (mq_farthest 1 (by omega) hF.1 (fun q a b => (hF.2.2.2.2.2.1 q a b).2.2)) lkX8_383 rfl rfl rfl rfl (mem_dom0 (by decide) (by decide)) (by decide) (Nat.le_of_ble_eq_true rfl) rfl ?_
  exact y_iret (pc := 10) dX8_richest_10 rfl rfl rfl

theorem Q_loadError {G : GG} {m : Mem} {N : Int → Int} (hF : NF N)    : Ct G MX8_loadError (rmD 9) [rf G 41 0] (hp (sr m N)) (.inl (some (.int (iI (m 41 0 16))))) (hp (sr (thr m 0) N)) := by
  refine x_entry (by decide +kernel) mwX8_loadError rfl (Nat.le_of_ble_eq_true rfl) ?_
  show X G MX8_loadError (rmD 9) 0 [(0, rf G 41 0)] [] (hp (sr m N)) 0 0 (.inl (some (.int (iI (m 41 0 16))))) (hp (sr (thr m 0) N))
  have n8 := hF.1
  have n16 := hF.2.1
  have nc8 := hF.2.2.1
  have nl16 := hF.2.2.2.1.1
  refine x_aload_n (pc := 0) dX8_loadError_0 0 rfl ?_
  refine x_iconst (pc := 1) dX8_loadError_1 ?_
  refine y_putM (pc := 2) 7 dX8_loadError_2 fwX8_41 rfl rfl rfl ?_
  refine x_aload_n (pc := 5) dX8_loadError_5 0 rfl ?_
  refine y_getM (pc := 6) 16 dX8_loadError_6 flX8_180 rfl rfl rfl ?_
  exact y_iret (pc := 9) dX8_loadError_9 rfl rfl rfl

def cntN (m : Mem) (N : Int → Int) (w : Int) : Int := if w = 7 then sm (openFN N (-1)) (N 9).toNat else if w = 8 then m 41 0 6 else N (3 + w)
def cabN (N : Int → Int) (c w : Int) : Int := if c = -1 then -1 else N (86 + 6 * c + (2 + w))
theorem outN_b {N : Int → Int} (hL : LNs N) (c : Int) : 0 ≤ sm (outFN N c) (N 9).toNat ∧ sm (outFN N c) (N 9).toNat ≤ 2000000000 := by
  have n := hL.1
  have h := sm_b (f := outFN N c) (n := (N 9).toNat) (a := 0) (b := 100200000) (fun l a b => by
    have lf := hL.2 l a (by omega)
    have ob := owedN_b lf
    have l1 := lf.2.1
    have l2 := lf.2.2.1
    unfold outFN
    split
    · split <;> omega
    · omega)
  omega
theorem Q_contract {G : GG} {m : Mem} {N : Int → Int} (hF : NF N) {a0 a1 : Int} (ha0 : inI a0) (ha1 : inI a1) (h0 : 0 ≤ a0 ∧ a0 < N 8) (h1 : 0 ≤ a1 ∧ a1 ≤ 9)  : Ct G MX8_contract (rmD 9) [rf G 41 0, .int (iI a0), .int (iI a1)] (hp (sr m N)) (.inl (some (.int (iI (conN N a0 a1))))) (hp (sr (thr m 0) N)) := by
  refine x_entry (by decide +kernel) mwX8_contract rfl (Nat.le_of_ble_eq_true rfl) ?_
  show X G MX8_contract (rmD 9) 0 [(0, rf G 41 0), (1, .int (iI a0)), (2, .int (iI a1))] [] (hp (sr m N)) 0 0 (.inl (some (.int (iI (conN N a0 a1))))) (hp (sr (thr m 0) N))
  have n8 := hF.1
  have n16 := hF.2.1
  have nc8 := hF.2.2.1
  have nl16 := hF.2.2.2.1.1
  have kc := hF.2.2.2.2.2.2.1 a0 h0.1 h0.2
  have kc0 := kc.1
  have kp := hF.2.2.2.2.2.1 _ kc0.1 kc0.2
  refine x_aload_n (pc := 0) dX8_contract_0 0 rfl ?_
  refine x_aload_n (pc := 1) dX8_contract_1 0 rfl ?_
  refine x_iload_n (pc := 2) dX8_contract_2 1 rfl ?_
  refine x_callV (pc := 3) _ dX8_contract_3 (mq_isContract a0 ha0 (by omega)) lkX8_257 rfl rfl rfl rfl (mem_dom0 (by decide) (by decide)) (by decide) (Nat.le_of_ble_eq_true rfl) rfl ?_
  refine x_iconst (pc := 6) dX8_contract_6 ?_
  refine x_callV (pc := 7) _ dX8_contract_7 (mq_isThrown (b := 0 ≤ a0 ∧ a0 < N 8) 1) lkX8_227 rfl rfl rfl rfl (mem_dom0 (by decide) (by decide)) (by decide) (Nat.le_of_ble_eq_true rfl) rfl ?_
  refine x_nil (m' := sr (thr m 0) N) (by rw [if_pos h0]) ?_
  refine x_ifb_ne (pc := 10) 30 dX8_contract_10 (by decide) (fun c_10 => absurd c_10 (fun z => z h0)) (fun c_10 => ?_)
  refine x_aload_n (pc := 13) dX8_contract_13 0 rfl ?_
  refine x_iload_n (pc := 14) dX8_contract_14 2 rfl ?_
  refine x_i2l (pc := 15) dX8_contract_15 ha1 ?_
  refine x_lconst (pc := 16) (z := 0) dX8_contract_16 (by decide) ?_
  refine x_ldc2 (pc := 17) (z := 9) dX8_contract_17 kcX8_260 (by decide) ?_
  refine x_callS (pc := 20) _ dX8_contract_20 (mq_in a1 0 9 (by unfold inL; unfold inI at ha1; omega) (by unfold inL; omega) (by unfold inL; omega)) lkX8_44 rfl (by decide) (Nat.le_of_ble_eq_true rfl) rfl ?_
  refine x_iconst (pc := 23) dX8_contract_23 ?_
  refine x_callV (pc := 24) _ dX8_contract_24 (mq_isThrown (b := 0 ≤ a1 ∧ a1 ≤ 9) 2) lkX8_227 rfl rfl rfl rfl (mem_dom0 (by decide) (by decide)) (by decide) (Nat.le_of_ble_eq_true rfl) rfl ?_
  refine x_nil (m' := sr (thr m 0) N) (by rw [if_pos h1, thr_thr]) ?_
  refine x_ifb_eq (pc := 27) 32 dX8_contract_27 (by decide) (fun c_27 => ?_) (fun c_27 => absurd c_27 (fun z => z h1))
  refine x_iload_n (pc := 32) dX8_contract_32 2 rfl ?_
  by_cases w5 : a1 = 5
  · subst w5
    refine x_tabIn (pc := 33) 68 dX8_contract_33 (by unfold inI; omega) (by decide) (by decide) rfl (by decide) ?_
    refine x_aload_n (pc := 68) dX8_contract_68 0 rfl ?_
    refine x_iload_n (pc := 69) dX8_contract_69 1 rfl ?_
    refine x_callV (pc := 70) _ dX8_contract_70 (mq_outstanding a0 ha0 hF.2.2.2.1) lkX8_262 rfl rfl rfl rfl (mem_dom0 (by decide) (by decide)) (by decide) (Nat.le_of_ble_eq_true rfl) rfl ?_
    refine x_l2i (pc := 73) dX8_contract_73 ?_
    exact y_iret (pc := 74) dX8_contract_74 rfl rfl rfl
  by_cases w6 : a1 = 6
  · subst w6
    refine x_tabIn (pc := 33) 75 dX8_contract_33 (by unfold inI; omega) (by decide) (by decide) rfl (by decide) ?_
    refine x_aload_n (pc := 75) dX8_contract_75 0 rfl ?_
    refine x_iload_n (pc := 76) dX8_contract_76 1 rfl ?_
    refine x_callV (pc := 77) _ dX8_contract_77 (mq_openMany a0 ha0 hF.2.2.2.1) lkX8_231 rfl rfl rfl rfl (mem_dom0 (by decide) (by decide)) (by decide) (Nat.le_of_ble_eq_true rfl) rfl ?_
    refine x_top (v' := .int (iI (sm (openFN N a0) (N 9).toNat))) rfl ?_
    exact y_iret (pc := 80) dX8_contract_80 rfl rfl rfl
  by_cases w7 : a1 = 7
  · subst w7
    refine x_tabIn (pc := 33) 81 dX8_contract_33 (by unfold inI; omega) (by decide) (by decide) rfl (by decide) ?_
    refine x_aload_n (pc := 81) dX8_contract_81 0 rfl ?_
    refine x_iload_n (pc := 82) dX8_contract_82 1 rfl ?_
    refine x_iconst (pc := 83) dX8_contract_83 ?_
    refine x_callV (pc := 84) _ dX8_contract_84 (mq_ofContract a0 5 (by omega)) lkX8_54 rfl rfl rfl rfl (mem_dom0 (by decide) (by decide)) (by decide) (Nat.le_of_ble_eq_true rfl) rfl ?_
    exact y_iret (pc := 87) dX8_contract_87 rfl rfl rfl
  by_cases w8 : a1 = 8
  · subst w8
    refine x_tabIn (pc := 33) 88 dX8_contract_33 (by unfold inI; omega) (by decide) (by decide) rfl (by decide) ?_
    refine x_aload_n (pc := 88) dX8_contract_88 0 rfl ?_
    refine x_iload_n (pc := 89) dX8_contract_89 1 rfl ?_
    refine x_iconst (pc := 90) dX8_contract_90 ?_
    refine x_callV (pc := 91) _ dX8_contract_91 (mq_sumOf a0 2 ha0 (by omega) hF.2.2.2.1) lkX8_266 rfl rfl rfl rfl (mem_dom0 (by decide) (by decide)) (by decide) (Nat.le_of_ble_eq_true rfl) rfl ?_
    exact y_iret (pc := 94) dX8_contract_94 rfl rfl rfl
  by_cases w9 : a1 = 9
  · subst w9
    refine x_tabIn (pc := 33) 95 dX8_contract_33 (by unfold inI; omega) (by decide) (by decide) rfl (by decide) ?_
    refine x_aload_n (pc := 95) dX8_contract_95 0 rfl ?_
    refine x_iload_n (pc := 96) dX8_contract_96 1 rfl ?_
    refine x_iconst (pc := 97) dX8_contract_97 ?_
    refine x_callV (pc := 98) _ dX8_contract_98 (mq_sumOf a0 4 ha0 (by omega) hF.2.2.2.1) lkX8_266 rfl rfl rfl rfl (mem_dom0 (by decide) (by decide)) (by decide) (Nat.le_of_ble_eq_true rfl) rfl ?_
    exact y_iret (pc := 101) dX8_contract_101 rfl rfl rfl
  refine x_tabOut (pc := 33) 102 dX8_contract_33 (by unfold inI; omega) (by omega) (by decide) ?_
  refine x_aload_n (pc := 102) dX8_contract_102 0 rfl ?_
  refine x_iload_n (pc := 103) dX8_contract_103 1 rfl ?_
  refine x_iload_n (pc := 104) dX8_contract_104 2 rfl ?_
  refine x_callV (pc := 105) _ dX8_contract_105 (mq_ofContract a0 a1 (by omega)) lkX8_54 rfl rfl rfl rfl (mem_dom0 (by decide) (by decide)) (by decide) (Nat.le_of_ble_eq_true rfl) rfl ?_
  exact y_iret (pc := 108) dX8_contract_108 rfl (by unfold conN; rw [if_neg w5, if_neg w6, if_neg w7, if_neg w8, if_neg w9]) rfl

theorem Qx_contract_0 {G : GG} {m : Mem} {N : Int → Int} (hF : NF N) {a0 a1 : Int} (ha0 : inI a0) (ha1 : inI a1)  (h0 : ¬ (0 ≤ a0 ∧ a0 < N 8)) : Ct G MX8_contract (rmD 9) [rf G 41 0, .int (iI a0), .int (iI a1)] (hp (sr m N)) (.inl (some (.int (iI (0))))) (hp (sr (thr m 1) N)) := by
  refine x_entry (by decide +kernel) mwX8_contract rfl (Nat.le_of_ble_eq_true rfl) ?_
  show X G MX8_contract (rmD 9) 0 [(0, rf G 41 0), (1, .int (iI a0)), (2, .int (iI a1))] [] (hp (sr m N)) 0 0 (.inl (some (.int (iI (0))))) (hp (sr (thr m 1) N))
  have n8 := hF.1
  have n16 := hF.2.1
  have nc8 := hF.2.2.1
  have nl16 := hF.2.2.2.1.1
  refine x_aload_n (pc := 0) dX8_contract_0 0 rfl ?_
  refine x_aload_n (pc := 1) dX8_contract_1 0 rfl ?_
  refine x_iload_n (pc := 2) dX8_contract_2 1 rfl ?_
  refine x_callV (pc := 3) _ dX8_contract_3 (mq_isContract a0 ha0 (by omega)) lkX8_257 rfl rfl rfl rfl (mem_dom0 (by decide) (by decide)) (by decide) (Nat.le_of_ble_eq_true rfl) rfl ?_
  refine x_iconst (pc := 6) dX8_contract_6 ?_
  refine x_callV (pc := 7) _ dX8_contract_7 (mq_isThrown (b := 0 ≤ a0 ∧ a0 < N 8) 1) lkX8_227 rfl rfl rfl rfl (mem_dom0 (by decide) (by decide)) (by decide) (Nat.le_of_ble_eq_true rfl) rfl ?_
  refine x_nil (m' := sr (thr m 1) N) (by rw [if_neg h0]) ?_
  refine x_ifb_ne (pc := 10) 30 dX8_contract_10 (by decide) (fun c_10 => ?_) (fun c_10 => absurd c_10 (fun z => z h0))
  refine x_iconst (pc := 30) dX8_contract_30 ?_
  exact y_iret (pc := 31) dX8_contract_31 rfl rfl rfl

theorem Qx_contract_1 {G : GG} {m : Mem} {N : Int → Int} (hF : NF N) {a0 a1 : Int} (ha0 : inI a0) (ha1 : inI a1) (h0 : 0 ≤ a0 ∧ a0 < N 8) (h1 : ¬ (0 ≤ a1 ∧ a1 ≤ 9)) : Ct G MX8_contract (rmD 9) [rf G 41 0, .int (iI a0), .int (iI a1)] (hp (sr m N)) (.inl (some (.int (iI (0))))) (hp (sr (thr m 2) N)) := by
  refine x_entry (by decide +kernel) mwX8_contract rfl (Nat.le_of_ble_eq_true rfl) ?_
  show X G MX8_contract (rmD 9) 0 [(0, rf G 41 0), (1, .int (iI a0)), (2, .int (iI a1))] [] (hp (sr m N)) 0 0 (.inl (some (.int (iI (0))))) (hp (sr (thr m 2) N))
  have n8 := hF.1
  have n16 := hF.2.1
  have nc8 := hF.2.2.1
  have nl16 := hF.2.2.2.1.1
  refine x_aload_n (pc := 0) dX8_contract_0 0 rfl ?_
  refine x_aload_n (pc := 1) dX8_contract_1 0 rfl ?_
  refine x_iload_n (pc := 2) dX8_contract_2 1 rfl ?_
  refine x_callV (pc := 3) _ dX8_contract_3 (mq_isContract a0 ha0 (by omega)) lkX8_257 rfl rfl rfl rfl (mem_dom0 (by decide) (by decide)) (by decide) (Nat.le_of_ble_eq_true rfl) rfl ?_
  refine x_iconst (pc := 6) dX8_contract_6 ?_
  refine x_callV (pc := 7) _ dX8_contract_7 (mq_isThrown (b := 0 ≤ a0 ∧ a0 < N 8) 1) lkX8_227 rfl rfl rfl rfl (mem_dom0 (by decide) (by decide)) (by decide) (Nat.le_of_ble_eq_true rfl) rfl ?_
  refine x_nil (m' := sr (thr m 0) N) (by rw [if_pos h0]) ?_
  refine x_ifb_ne (pc := 10) 30 dX8_contract_10 (by decide) (fun c_10 => absurd c_10 (fun z => z h0)) (fun c_10 => ?_)
  refine x_aload_n (pc := 13) dX8_contract_13 0 rfl ?_
  refine x_iload_n (pc := 14) dX8_contract_14 2 rfl ?_
  refine x_i2l (pc := 15) dX8_contract_15 ha1 ?_
  refine x_lconst (pc := 16) (z := 0) dX8_contract_16 (by decide) ?_
  refine x_ldc2 (pc := 17) (z := 9) dX8_contract_17 kcX8_260 (by decide) ?_
  refine x_callS (pc := 20) _ dX8_contract_20 (mq_in a1 0 9 (by unfold inL; unfold inI at ha1; omega) (by unfold inL; omega) (by unfold inL; omega)) lkX8_44 rfl (by decide) (Nat.le_of_ble_eq_true rfl) rfl ?_
  refine x_iconst (pc := 23) dX8_contract_23 ?_
  refine x_callV (pc := 24) _ dX8_contract_24 (mq_isThrown (b := 0 ≤ a1 ∧ a1 ≤ 9) 2) lkX8_227 rfl rfl rfl rfl (mem_dom0 (by decide) (by decide)) (by decide) (Nat.le_of_ble_eq_true rfl) rfl ?_
  refine x_nil (m' := sr (thr m 2) N) (by rw [if_neg h1, thr_thr]) ?_
  refine x_ifb_eq (pc := 27) 32 dX8_contract_27 (by decide) (fun c_27 => absurd c_27 (fun z => z h1)) (fun c_27 => ?_)
  refine x_iconst (pc := 30) dX8_contract_30 ?_
  exact y_iret (pc := 31) dX8_contract_31 rfl rfl rfl

theorem Q_count {G : GG} {m : Mem} {N : Int → Int} (hF : NF N) {a0 : Int} (ha0 : inI a0) (h0 : 0 ≤ a0 ∧ a0 ≤ 8)  : Ct G MX8_count (rmD 9) [rf G 41 0, .int (iI a0)] (hp (sr m N)) (.inl (some (.int (iI (cntN m N a0))))) (hp (sr (thr m 0) N)) := by
  refine x_entry (by decide +kernel) mwX8_count rfl (Nat.le_of_ble_eq_true rfl) ?_
  show X G MX8_count (rmD 9) 0 [(0, rf G 41 0), (1, .int (iI a0))] [] (hp (sr m N)) 0 0 (.inl (some (.int (iI (cntN m N a0))))) (hp (sr (thr m 0) N))
  have n8 := hF.1
  have n16 := hF.2.1
  have nc8 := hF.2.2.1
  have nl16 := hF.2.2.2.1.1
  refine x_aload_n (pc := 0) dX8_count_0 0 rfl ?_
  refine x_iload_n (pc := 1) dX8_count_1 1 rfl ?_
  refine x_i2l (pc := 2) dX8_count_2 ha0 ?_
  refine x_lconst (pc := 3) (z := 0) dX8_count_3 (by decide) ?_
  refine x_ldc2 (pc := 4) (z := 8) dX8_count_4 kcX8_225 (by decide) ?_
  refine x_callS (pc := 7) _ dX8_count_7 (mq_in a0 0 8 (by unfold inL; unfold inI at ha0; omega) (by unfold inL; omega) (by unfold inL; omega)) lkX8_44 rfl (by decide) (Nat.le_of_ble_eq_true rfl) rfl ?_
  refine x_iconst (pc := 10) dX8_count_10 ?_
  refine x_callV (pc := 11) _ dX8_count_11 (mq_isThrown (b := 0 ≤ a0 ∧ a0 ≤ 8) 1) lkX8_227 rfl rfl rfl rfl (mem_dom0 (by decide) (by decide)) (by decide) (Nat.le_of_ble_eq_true rfl) rfl ?_
  refine x_nil (m' := sr (thr m 0) N) (by rw [if_pos h0]) ?_
  refine x_ifb_eq (pc := 14) 19 dX8_count_14 (by decide) (fun c_14 => ?_) (fun c_14 => absurd c_14 (fun z => z h0))
  refine x_iload_n (pc := 19) dX8_count_19 1 rfl ?_
  refine x_bipush (pc := 20) (z := 7) dX8_count_20 (by decide) ?_
  refine x_icmp_ne (pc := 22) 33 dX8_count_22 (by decide) (by unfold inI; omega) (by unfold inI; omega) (fun c_22 => ?_) (fun c_22 => ?_)
  · refine x_iload_n (pc := 33) dX8_count_33 1 rfl ?_
    refine x_bipush (pc := 34) (z := 8) dX8_count_34 (by decide) ?_
    refine x_icmp_ne (pc := 36) 46 dX8_count_36 (by decide) (by unfold inI; omega) (by unfold inI; omega) (fun c_36 => ?_) (fun c_36 => ?_)
    · refine x_aload_n (pc := 46) dX8_count_46 0 rfl ?_
      refine y_getR (pc := 47) dX8_count_47 flX8_9 rfl rfl rfl (by decide) ?_
      refine x_iconst (pc := 50) dX8_count_50 ?_
      refine x_iload_n (pc := 51) dX8_count_51 1 rfl ?_
      refine x_iadd (pc := 52) dX8_count_52 ?_
      refine y_nald (pc := 53) dX8_count_53 (by omega) ?_
      exact y_iret (pc := 54) dX8_count_54 rfl (by unfold cntN; first | (rw [if_pos (by omega)]) | (rw [if_neg (by omega), if_pos (by omega)]; rfl) | (rw [if_neg (by omega), if_neg (by omega)])) rfl
    · refine x_aload_n (pc := 39) dX8_count_39 0 rfl ?_
      refine y_getM (pc := 40) 6 dX8_count_40 flX8_186 rfl rfl rfl ?_
      refine x_goto (pc := 43) 54 dX8_count_43 (by decide) ?_
      exact y_iret (pc := 54) dX8_count_54 rfl (by unfold cntN; first | (rw [if_pos (by omega)]) | (rw [if_neg (by omega), if_pos (by omega)]; rfl) | (rw [if_neg (by omega), if_neg (by omega)])) rfl
  · refine x_aload_n (pc := 25) dX8_count_25 0 rfl ?_
    refine x_iconst (pc := 26) dX8_count_26 ?_
    refine x_callV (pc := 27) _ dX8_count_27 (mq_openMany (-1) (by unfold inI; omega) hF.2.2.2.1) lkX8_231 rfl rfl rfl rfl (mem_dom0 (by decide) (by decide)) (by decide) (Nat.le_of_ble_eq_true rfl) rfl ?_
    refine x_goto (pc := 30) 54 dX8_count_30 (by decide) ?_
    exact y_iret (pc := 54) dX8_count_54 rfl (by unfold cntN; first | (rw [if_pos (by omega)]) | (rw [if_neg (by omega), if_pos (by omega)]; rfl) | (rw [if_neg (by omega), if_neg (by omega)])) rfl

theorem Qx_count_0 {G : GG} {m : Mem} {N : Int → Int} (hF : NF N) {a0 : Int} (ha0 : inI a0)  (h0 : ¬ (0 ≤ a0 ∧ a0 ≤ 8)) : Ct G MX8_count (rmD 9) [rf G 41 0, .int (iI a0)] (hp (sr m N)) (.inl (some (.int (iI (0))))) (hp (sr (thr m 1) N)) := by
  refine x_entry (by decide +kernel) mwX8_count rfl (Nat.le_of_ble_eq_true rfl) ?_
  show X G MX8_count (rmD 9) 0 [(0, rf G 41 0), (1, .int (iI a0))] [] (hp (sr m N)) 0 0 (.inl (some (.int (iI (0))))) (hp (sr (thr m 1) N))
  have n8 := hF.1
  have n16 := hF.2.1
  have nc8 := hF.2.2.1
  have nl16 := hF.2.2.2.1.1
  refine x_aload_n (pc := 0) dX8_count_0 0 rfl ?_
  refine x_iload_n (pc := 1) dX8_count_1 1 rfl ?_
  refine x_i2l (pc := 2) dX8_count_2 ha0 ?_
  refine x_lconst (pc := 3) (z := 0) dX8_count_3 (by decide) ?_
  refine x_ldc2 (pc := 4) (z := 8) dX8_count_4 kcX8_225 (by decide) ?_
  refine x_callS (pc := 7) _ dX8_count_7 (mq_in a0 0 8 (by unfold inL; unfold inI at ha0; omega) (by unfold inL; omega) (by unfold inL; omega)) lkX8_44 rfl (by decide) (Nat.le_of_ble_eq_true rfl) rfl ?_
  refine x_iconst (pc := 10) dX8_count_10 ?_
  refine x_callV (pc := 11) _ dX8_count_11 (mq_isThrown (b := 0 ≤ a0 ∧ a0 ≤ 8) 1) lkX8_227 rfl rfl rfl rfl (mem_dom0 (by decide) (by decide)) (by decide) (Nat.le_of_ble_eq_true rfl) rfl ?_
  refine x_nil (m' := sr (thr m 1) N) (by rw [if_neg h0]) ?_
  refine x_ifb_eq (pc := 14) 19 dX8_count_14 (by decide) (fun c_14 => absurd c_14 (fun z => z h0)) (fun c_14 => ?_)
  refine x_iconst (pc := 17) dX8_count_17 ?_
  exact y_iret (pc := 18) dX8_count_18 rfl rfl rfl

theorem Q_hindrance {G : GG} {m : Mem} {N : Int → Int} (hF : NF N) {a0 a1 : Int} (ha0 : inI a0) (ha1 : inI a1) (h0 : 0 ≤ a0 ∧ a0 < N 8) (h1 : 1 ≤ a1 ∧ a1 ≤ 100000)  : Ct G MX8_hindrance (rmD 9) [rf G 41 0, .int (iI a0), .int (iI a1)] (hp (sr m N)) (.inl (some (.int (iI (hinN N a0 a1))))) (hp (sr (thr m 0) N)) := by
  refine x_entry (by decide +kernel) mwX8_hindrance rfl (Nat.le_of_ble_eq_true rfl) ?_
  show X G MX8_hindrance (rmD 9) 0 [(0, rf G 41 0), (1, .int (iI a0)), (2, .int (iI a1))] [] (hp (sr m N)) 0 0 (.inl (some (.int (iI (hinN N a0 a1))))) (hp (sr (thr m 0) N))
  have n8 := hF.1
  have n16 := hF.2.1
  have nc8 := hF.2.2.1
  have nl16 := hF.2.2.2.1.1
  have kc := hF.2.2.2.2.2.2.1 a0 h0.1 h0.2
  have kc0 := kc.1
  have kp := hF.2.2.2.2.2.1 _ kc0.1 kc0.2
  have kc2 := kc.2.2.1
  have kc5 := kc.2.2.2
  have kab := kp.2.2
  refine x_aload_n (pc := 0) dX8_hindrance_0 0 rfl ?_
  refine x_aload_n (pc := 1) dX8_hindrance_1 0 rfl ?_
  refine x_iload_n (pc := 2) dX8_hindrance_2 1 rfl ?_
  refine x_callV (pc := 3) _ dX8_hindrance_3 (mq_isContract a0 ha0 (by omega)) lkX8_257 rfl rfl rfl rfl (mem_dom0 (by decide) (by decide)) (by decide) (Nat.le_of_ble_eq_true rfl) rfl ?_
  refine x_iconst (pc := 6) dX8_hindrance_6 ?_
  refine x_callV (pc := 7) _ dX8_hindrance_7 (mq_isThrown (b := 0 ≤ a0 ∧ a0 < N 8) 1) lkX8_227 rfl rfl rfl rfl (mem_dom0 (by decide) (by decide)) (by decide) (Nat.le_of_ble_eq_true rfl) rfl ?_
  refine x_nil (m' := sr (thr m 0) N) (by rw [if_pos h0]) ?_
  refine x_ifb_ne (pc := 10) 25 dX8_hindrance_10 (by decide) (fun c_10 => absurd c_10 (fun z => z h0)) (fun c_10 => ?_)
  refine x_aload_n (pc := 13) dX8_hindrance_13 0 rfl ?_
  refine x_iload_n (pc := 14) dX8_hindrance_14 2 rfl ?_
  refine x_callS (pc := 15) _ dX8_hindrance_15 (mq_isAmount a1 ha1) lkX8_281 rfl (by decide) (Nat.le_of_ble_eq_true rfl) rfl ?_
  refine x_iconst (pc := 18) dX8_hindrance_18 ?_
  refine x_callV (pc := 19) _ dX8_hindrance_19 (mq_isThrown (b := 1 ≤ a1 ∧ a1 ≤ 100000) 2) lkX8_227 rfl rfl rfl rfl (mem_dom0 (by decide) (by decide)) (by decide) (Nat.le_of_ble_eq_true rfl) rfl ?_
  refine x_nil (m' := sr (thr m 0) N) (by rw [if_pos h1, thr_thr]) ?_
  refine x_ifb_eq (pc := 22) 27 dX8_hindrance_22 (by decide) (fun c_22 => ?_) (fun c_22 => absurd c_22 (fun z => z h1))
  refine x_aload_n (pc := 27) dX8_hindrance_27 0 rfl ?_
  refine x_iload_n (pc := 28) dX8_hindrance_28 1 rfl ?_
  refine x_iload_n (pc := 29) dX8_hindrance_29 2 rfl ?_
  refine x_callV (pc := 30) _ dX8_hindrance_30 (mq_hindered a0 a1 (by omega) (by omega) hF.2.2.2.1 (by omega) (by unfold inI; omega) (by unfold inI; omega) (by unfold inI; omega) (outN_b hF.2.2.2.1 a0)) lkX8_290 rfl rfl rfl rfl (mem_dom0 (by decide) (by decide)) (by decide) (Nat.le_of_ble_eq_true rfl) rfl ?_
  exact y_iret (pc := 33) dX8_hindrance_33 rfl rfl rfl

theorem Qx_hindrance_0 {G : GG} {m : Mem} {N : Int → Int} (hF : NF N) {a0 a1 : Int} (ha0 : inI a0) (ha1 : inI a1)  (h0 : ¬ (0 ≤ a0 ∧ a0 < N 8)) : Ct G MX8_hindrance (rmD 9) [rf G 41 0, .int (iI a0), .int (iI a1)] (hp (sr m N)) (.inl (some (.int (iI (0))))) (hp (sr (thr m 1) N)) := by
  refine x_entry (by decide +kernel) mwX8_hindrance rfl (Nat.le_of_ble_eq_true rfl) ?_
  show X G MX8_hindrance (rmD 9) 0 [(0, rf G 41 0), (1, .int (iI a0)), (2, .int (iI a1))] [] (hp (sr m N)) 0 0 (.inl (some (.int (iI (0))))) (hp (sr (thr m 1) N))
  have n8 := hF.1
  have n16 := hF.2.1
  have nc8 := hF.2.2.1
  have nl16 := hF.2.2.2.1.1
  refine x_aload_n (pc := 0) dX8_hindrance_0 0 rfl ?_
  refine x_aload_n (pc := 1) dX8_hindrance_1 0 rfl ?_
  refine x_iload_n (pc := 2) dX8_hindrance_2 1 rfl ?_
  refine x_callV (pc := 3) _ dX8_hindrance_3 (mq_isContract a0 ha0 (by omega)) lkX8_257 rfl rfl rfl rfl (mem_dom0 (by decide) (by decide)) (by decide) (Nat.le_of_ble_eq_true rfl) rfl ?_
  refine x_iconst (pc := 6) dX8_hindrance_6 ?_
  refine x_callV (pc := 7) _ dX8_hindrance_7 (mq_isThrown (b := 0 ≤ a0 ∧ a0 < N 8) 1) lkX8_227 rfl rfl rfl rfl (mem_dom0 (by decide) (by decide)) (by decide) (Nat.le_of_ble_eq_true rfl) rfl ?_
  refine x_nil (m' := sr (thr m 1) N) (by rw [if_neg h0]) ?_
  refine x_ifb_ne (pc := 10) 25 dX8_hindrance_10 (by decide) (fun c_10 => ?_) (fun c_10 => absurd c_10 (fun z => z h0))
  refine x_iconst (pc := 25) dX8_hindrance_25 ?_
  exact y_iret (pc := 26) dX8_hindrance_26 rfl rfl rfl

theorem Qx_hindrance_1 {G : GG} {m : Mem} {N : Int → Int} (hF : NF N) {a0 a1 : Int} (ha0 : inI a0) (ha1 : inI a1) (h0 : 0 ≤ a0 ∧ a0 < N 8) (h1 : ¬ (1 ≤ a1 ∧ a1 ≤ 100000)) : Ct G MX8_hindrance (rmD 9) [rf G 41 0, .int (iI a0), .int (iI a1)] (hp (sr m N)) (.inl (some (.int (iI (0))))) (hp (sr (thr m 2) N)) := by
  refine x_entry (by decide +kernel) mwX8_hindrance rfl (Nat.le_of_ble_eq_true rfl) ?_
  show X G MX8_hindrance (rmD 9) 0 [(0, rf G 41 0), (1, .int (iI a0)), (2, .int (iI a1))] [] (hp (sr m N)) 0 0 (.inl (some (.int (iI (0))))) (hp (sr (thr m 2) N))
  have n8 := hF.1
  have n16 := hF.2.1
  have nc8 := hF.2.2.1
  have nl16 := hF.2.2.2.1.1
  refine x_aload_n (pc := 0) dX8_hindrance_0 0 rfl ?_
  refine x_aload_n (pc := 1) dX8_hindrance_1 0 rfl ?_
  refine x_iload_n (pc := 2) dX8_hindrance_2 1 rfl ?_
  refine x_callV (pc := 3) _ dX8_hindrance_3 (mq_isContract a0 ha0 (by omega)) lkX8_257 rfl rfl rfl rfl (mem_dom0 (by decide) (by decide)) (by decide) (Nat.le_of_ble_eq_true rfl) rfl ?_
  refine x_iconst (pc := 6) dX8_hindrance_6 ?_
  refine x_callV (pc := 7) _ dX8_hindrance_7 (mq_isThrown (b := 0 ≤ a0 ∧ a0 < N 8) 1) lkX8_227 rfl rfl rfl rfl (mem_dom0 (by decide) (by decide)) (by decide) (Nat.le_of_ble_eq_true rfl) rfl ?_
  refine x_nil (m' := sr (thr m 0) N) (by rw [if_pos h0]) ?_
  refine x_ifb_ne (pc := 10) 25 dX8_hindrance_10 (by decide) (fun c_10 => absurd c_10 (fun z => z h0)) (fun c_10 => ?_)
  refine x_aload_n (pc := 13) dX8_hindrance_13 0 rfl ?_
  refine x_iload_n (pc := 14) dX8_hindrance_14 2 rfl ?_
  refine x_callS (pc := 15) _ dX8_hindrance_15 (mq_isAmount a1 ha1) lkX8_281 rfl (by decide) (Nat.le_of_ble_eq_true rfl) rfl ?_
  refine x_iconst (pc := 18) dX8_hindrance_18 ?_
  refine x_callV (pc := 19) _ dX8_hindrance_19 (mq_isThrown (b := 1 ≤ a1 ∧ a1 ≤ 100000) 2) lkX8_227 rfl rfl rfl rfl (mem_dom0 (by decide) (by decide)) (by decide) (Nat.le_of_ble_eq_true rfl) rfl ?_
  refine x_nil (m' := sr (thr m 2) N) (by rw [if_neg h1, thr_thr]) ?_
  refine x_ifb_eq (pc := 22) 27 dX8_hindrance_22 (by decide) (fun c_22 => absurd c_22 (fun z => z h1)) (fun c_22 => ?_)
  refine x_iconst (pc := 25) dX8_hindrance_25 ?_
  exact y_iret (pc := 26) dX8_hindrance_26 rfl rfl rfl

theorem Q_cable {G : GG} {m : Mem} {N : Int → Int} (hF : NF N) {a0 a1 a2 : Int} (ha0 : inI a0) (ha1 : inI a1) (ha2 : inI a2) (h0 : (0 ≤ a0 ∧ a0 < N 3) ∧ (0 ≤ a1 ∧ a1 < N 3)) (h1 : 0 ≤ a2 ∧ a2 ≤ 3) (hb : -1 ≤ betN N a0 a1 ∧ betN N a0 a1 < 12) : Ct G MX8_cable (rmD 9) [rf G 41 0, .int (iI a0), .int (iI a1), .int (iI a2)] (hp (sr m N)) (.inl (some (.int (iI (cabN N (betN N a0 a1) a2))))) (hp (sr (thr m 0) N)) := by
  refine x_entry (by decide +kernel) mwX8_cable rfl (Nat.le_of_ble_eq_true rfl) ?_
  show X G MX8_cable (rmD 9) 0 [(0, rf G 41 0), (1, .int (iI a0)), (2, .int (iI a1)), (3, .int (iI a2))] [] (hp (sr m N)) 0 0 (.inl (some (.int (iI (cabN N (betN N a0 a1) a2))))) (hp (sr (thr m 0) N))
  have n8 := hF.1
  have n16 := hF.2.1
  have nc8 := hF.2.2.1
  have nl16 := hF.2.2.2.1.1
  refine x_aload_n (pc := 0) dX8_cable_0 0 rfl ?_
  refine x_aload_n (pc := 1) dX8_cable_1 0 rfl ?_
  refine x_iload_n (pc := 2) dX8_cable_2 1 rfl ?_
  refine x_callV (pc := 3) _ dX8_cable_3 (mq_isPack a0 ha0 (by omega)) lkX8_234 rfl rfl rfl rfl (mem_dom0 (by decide) (by decide)) (by decide) (Nat.le_of_ble_eq_true rfl) rfl ?_
  refine x_ifb_eq (pc := 6) 21 dX8_cable_6 (by decide) (fun c_6 => absurd c_6 (fun z => z h0.1)) (fun c_6 => ?_)
  refine x_aload_n (pc := 9) dX8_cable_9 0 rfl ?_
  refine x_iload_n (pc := 10) dX8_cable_10 2 rfl ?_
  refine x_callV (pc := 11) _ dX8_cable_11 (mq_isPack a1 ha1 (by omega)) lkX8_234 rfl rfl rfl rfl (mem_dom0 (by decide) (by decide)) (by decide) (Nat.le_of_ble_eq_true rfl) rfl ?_
  refine x_ifb_eq (pc := 14) 21 dX8_cable_14 (by decide) (fun c_14 => absurd c_14 (fun z => z h0.2)) (fun c_14 => ?_)
  refine x_iconst (pc := 17) dX8_cable_17 ?_
  refine x_goto (pc := 18) 22 dX8_cable_18 (by decide) ?_
  refine x_iconst (pc := 22) dX8_cable_22 ?_
  refine x_callV (pc := 23) _ dX8_cable_23 (mq_isThrown (b := True) 1) lkX8_227 rfl rfl rfl rfl (mem_dom0 (by decide) (by decide)) (by decide) (Nat.le_of_ble_eq_true rfl) rfl ?_
  refine x_nil (m' := sr (thr m 0) N) (by rw [if_pos trivial]) ?_
  refine x_ifb_ne (pc := 26) 46 dX8_cable_26 (by decide) (fun c_26 => absurd c_26 (fun z => z trivial)) (fun c_26 => ?_)
  refine x_aload_n (pc := 29) dX8_cable_29 0 rfl ?_
  refine x_iload_n (pc := 30) dX8_cable_30 3 rfl ?_
  refine x_i2l (pc := 31) dX8_cable_31 ha2 ?_
  refine x_lconst (pc := 32) (z := 0) dX8_cable_32 (by decide) ?_
  refine x_ldc2 (pc := 33) (z := 3) dX8_cable_33 kcX8_195 (by decide) ?_
  refine x_callS (pc := 36) _ dX8_cable_36 (mq_in a2 0 3 (by unfold inL; unfold inI at ha2; omega) (by unfold inL; omega) (by unfold inL; omega)) lkX8_44 rfl (by decide) (Nat.le_of_ble_eq_true rfl) rfl ?_
  refine x_iconst (pc := 39) dX8_cable_39 ?_
  refine x_callV (pc := 40) _ dX8_cable_40 (mq_isThrown (b := 0 ≤ a2 ∧ a2 ≤ 3) 2) lkX8_227 rfl rfl rfl rfl (mem_dom0 (by decide) (by decide)) (by decide) (Nat.le_of_ble_eq_true rfl) rfl ?_
  refine x_nil (m' := sr (thr m 0) N) (by rw [if_pos h1, thr_thr]) ?_
  refine x_ifb_eq (pc := 43) 48 dX8_cable_43 (by decide) (fun c_43 => ?_) (fun c_43 => absurd c_43 (fun z => z h1))
  refine x_aload_n (pc := 48) dX8_cable_48 0 rfl ?_
  refine y_getR (pc := 49) dX8_cable_49 flX8_9 rfl rfl rfl (by decide) ?_
  refine x_iload_n (pc := 52) dX8_cable_52 1 rfl ?_
  refine x_iload_n (pc := 53) dX8_cable_53 2 rfl ?_
  refine x_callS (pc := 54) _ dX8_cable_54 (mq_between a0 a1 ha0 ha1 hF.2.2.2.2.1) lkX8_134 rfl (by decide) (Nat.le_of_ble_eq_true rfl) rfl ?_
  refine x_istore (pc := 57) (lv' := [(4, _), (0, _), (1, _), (2, _), (3, _)]) dX8_cable_57 (by decide) rfl ?_
  refine x_iload (pc := 59) dX8_cable_59 0 rfl ?_
  refine x_iconst (pc := 61) dX8_cable_61 ?_
  refine x_icmp_ne (pc := 62) 69 dX8_cable_62 (by decide) (by unfold inI; omega) (by unfold inI; omega) (fun c_62 => ?_) (fun c_62 => ?_)
  · refine x_aload_n (pc := 69) dX8_cable_69 1 rfl ?_
    refine x_iload (pc := 70) dX8_cable_70 0 rfl ?_
    refine x_iconst (pc := 72) dX8_cable_72 ?_
    refine x_iload_n (pc := 73) dX8_cable_73 4 rfl ?_
    refine x_iadd (pc := 74) dX8_cable_74 ?_
    refine x_callV (pc := 75) _ dX8_cable_75 (mq_ofCable _ (2 + a2) (by omega)) lkX8_237 rfl rfl rfl rfl (mem_dom0 (by decide) (by decide)) (by decide) (Nat.le_of_ble_eq_true rfl) rfl ?_
    exact y_iret (pc := 78) dX8_cable_78 rfl (by unfold cabN; first | rw [if_pos (by omega)] | rw [if_neg (by omega)]) rfl
  · refine x_iconst (pc := 65) dX8_cable_65 ?_
    refine x_goto (pc := 66) 78 dX8_cable_66 (by decide) ?_
    exact y_iret (pc := 78) dX8_cable_78 rfl (by unfold cabN; first | rw [if_pos (by omega)] | rw [if_neg (by omega)]) rfl

theorem Qx_cable_0 {G : GG} {m : Mem} {N : Int → Int} (hF : NF N) {a0 a1 a2 : Int} (ha0 : inI a0) (ha1 : inI a1) (ha2 : inI a2)  (h0 : ¬ ((0 ≤ a0 ∧ a0 < N 3) ∧ (0 ≤ a1 ∧ a1 < N 3))) : Ct G MX8_cable (rmD 9) [rf G 41 0, .int (iI a0), .int (iI a1), .int (iI a2)] (hp (sr m N)) (.inl (some (.int (iI (0))))) (hp (sr (thr m 1) N)) := by
  refine x_entry (by decide +kernel) mwX8_cable rfl (Nat.le_of_ble_eq_true rfl) ?_
  show X G MX8_cable (rmD 9) 0 [(0, rf G 41 0), (1, .int (iI a0)), (2, .int (iI a1)), (3, .int (iI a2))] [] (hp (sr m N)) 0 0 (.inl (some (.int (iI (0))))) (hp (sr (thr m 1) N))
  have n8 := hF.1
  have n16 := hF.2.1
  have nc8 := hF.2.2.1
  have nl16 := hF.2.2.2.1.1
  refine x_aload_n (pc := 0) dX8_cable_0 0 rfl ?_
  refine x_aload_n (pc := 1) dX8_cable_1 0 rfl ?_
  refine x_iload_n (pc := 2) dX8_cable_2 1 rfl ?_
  refine x_callV (pc := 3) _ dX8_cable_3 (mq_isPack a0 ha0 (by omega)) lkX8_234 rfl rfl rfl rfl (mem_dom0 (by decide) (by decide)) (by decide) (Nat.le_of_ble_eq_true rfl) rfl ?_
  refine x_ifb_eq (pc := 6) 21 dX8_cable_6 (by decide) (fun c_6 => ?_) (fun c_6 => ?_)
  · refine x_iconst (pc := 21) dX8_cable_21 ?_
    refine x_iconst (pc := 22) dX8_cable_22 ?_
    refine x_callV (pc := 23) _ dX8_cable_23 (mq_isThrown (b := False) 1) lkX8_227 rfl rfl rfl rfl (mem_dom0 (by decide) (by decide)) (by decide) (Nat.le_of_ble_eq_true rfl) rfl ?_
    refine x_nil (m' := sr (thr m 1) N) (by rw [if_neg id]) ?_
    refine x_ifb_ne (pc := 26) 46 dX8_cable_26 (by decide) (fun c_26 => ?_) (fun c_26 => absurd c_26 (fun z => z id))
    refine x_iconst (pc := 46) dX8_cable_46 ?_
    exact y_iret (pc := 47) dX8_cable_47 rfl rfl rfl
  · refine x_aload_n (pc := 9) dX8_cable_9 0 rfl ?_
    refine x_iload_n (pc := 10) dX8_cable_10 2 rfl ?_
    refine x_callV (pc := 11) _ dX8_cable_11 (mq_isPack a1 ha1 (by omega)) lkX8_234 rfl rfl rfl rfl (mem_dom0 (by decide) (by decide)) (by decide) (Nat.le_of_ble_eq_true rfl) rfl ?_
    refine x_ifb_eq (pc := 14) 21 dX8_cable_14 (by decide) (fun c_14 => ?_) (fun c_14 => absurd c_14 (fun z => h0 ⟨c_6, z⟩))
    refine x_iconst (pc := 21) dX8_cable_21 ?_
    refine x_iconst (pc := 22) dX8_cable_22 ?_
    refine x_callV (pc := 23) _ dX8_cable_23 (mq_isThrown (b := False) 1) lkX8_227 rfl rfl rfl rfl (mem_dom0 (by decide) (by decide)) (by decide) (Nat.le_of_ble_eq_true rfl) rfl ?_
    refine x_nil (m' := sr (thr m 1) N) (by rw [if_neg id]) ?_
    refine x_ifb_ne (pc := 26) 46 dX8_cable_26 (by decide) (fun c_26 => ?_) (fun c_26 => absurd c_26 (fun z => z id))
    refine x_iconst (pc := 46) dX8_cable_46 ?_
    exact y_iret (pc := 47) dX8_cable_47 rfl rfl rfl

theorem Qx_cable_1 {G : GG} {m : Mem} {N : Int → Int} (hF : NF N) {a0 a1 a2 : Int} (ha0 : inI a0) (ha1 : inI a1) (ha2 : inI a2) (h0 : (0 ≤ a0 ∧ a0 < N 3) ∧ (0 ≤ a1 ∧ a1 < N 3)) (h1 : ¬ (0 ≤ a2 ∧ a2 ≤ 3)) : Ct G MX8_cable (rmD 9) [rf G 41 0, .int (iI a0), .int (iI a1), .int (iI a2)] (hp (sr m N)) (.inl (some (.int (iI (0))))) (hp (sr (thr m 2) N)) := by
  refine x_entry (by decide +kernel) mwX8_cable rfl (Nat.le_of_ble_eq_true rfl) ?_
  show X G MX8_cable (rmD 9) 0 [(0, rf G 41 0), (1, .int (iI a0)), (2, .int (iI a1)), (3, .int (iI a2))] [] (hp (sr m N)) 0 0 (.inl (some (.int (iI (0))))) (hp (sr (thr m 2) N))
  have n8 := hF.1
  have n16 := hF.2.1
  have nc8 := hF.2.2.1
  have nl16 := hF.2.2.2.1.1
  refine x_aload_n (pc := 0) dX8_cable_0 0 rfl ?_
  refine x_aload_n (pc := 1) dX8_cable_1 0 rfl ?_
  refine x_iload_n (pc := 2) dX8_cable_2 1 rfl ?_
  refine x_callV (pc := 3) _ dX8_cable_3 (mq_isPack a0 ha0 (by omega)) lkX8_234 rfl rfl rfl rfl (mem_dom0 (by decide) (by decide)) (by decide) (Nat.le_of_ble_eq_true rfl) rfl ?_
  refine x_ifb_eq (pc := 6) 21 dX8_cable_6 (by decide) (fun c_6 => absurd c_6 (fun z => z h0.1)) (fun c_6 => ?_)
  refine x_aload_n (pc := 9) dX8_cable_9 0 rfl ?_
  refine x_iload_n (pc := 10) dX8_cable_10 2 rfl ?_
  refine x_callV (pc := 11) _ dX8_cable_11 (mq_isPack a1 ha1 (by omega)) lkX8_234 rfl rfl rfl rfl (mem_dom0 (by decide) (by decide)) (by decide) (Nat.le_of_ble_eq_true rfl) rfl ?_
  refine x_ifb_eq (pc := 14) 21 dX8_cable_14 (by decide) (fun c_14 => absurd c_14 (fun z => z h0.2)) (fun c_14 => ?_)
  refine x_iconst (pc := 17) dX8_cable_17 ?_
  refine x_goto (pc := 18) 22 dX8_cable_18 (by decide) ?_
  refine x_iconst (pc := 22) dX8_cable_22 ?_
  refine x_callV (pc := 23) _ dX8_cable_23 (mq_isThrown (b := True) 1) lkX8_227 rfl rfl rfl rfl (mem_dom0 (by decide) (by decide)) (by decide) (Nat.le_of_ble_eq_true rfl) rfl ?_
  refine x_nil (m' := sr (thr m 0) N) (by rw [if_pos trivial]) ?_
  refine x_ifb_ne (pc := 26) 46 dX8_cable_26 (by decide) (fun c_26 => absurd c_26 (fun z => z trivial)) (fun c_26 => ?_)
  refine x_aload_n (pc := 29) dX8_cable_29 0 rfl ?_
  refine x_iload_n (pc := 30) dX8_cable_30 3 rfl ?_
  refine x_i2l (pc := 31) dX8_cable_31 ha2 ?_
  refine x_lconst (pc := 32) (z := 0) dX8_cable_32 (by decide) ?_
  refine x_ldc2 (pc := 33) (z := 3) dX8_cable_33 kcX8_195 (by decide) ?_
  refine x_callS (pc := 36) _ dX8_cable_36 (mq_in a2 0 3 (by unfold inL; unfold inI at ha2; omega) (by unfold inL; omega) (by unfold inL; omega)) lkX8_44 rfl (by decide) (Nat.le_of_ble_eq_true rfl) rfl ?_
  refine x_iconst (pc := 39) dX8_cable_39 ?_
  refine x_callV (pc := 40) _ dX8_cable_40 (mq_isThrown (b := 0 ≤ a2 ∧ a2 ≤ 3) 2) lkX8_227 rfl rfl rfl rfl (mem_dom0 (by decide) (by decide)) (by decide) (Nat.le_of_ble_eq_true rfl) rfl ?_
  refine x_nil (m' := sr (thr m 2) N) (by rw [if_neg h1, thr_thr]) ?_
  refine x_ifb_eq (pc := 43) 48 dX8_cable_43 (by decide) (fun c_43 => absurd c_43 (fun z => z h1)) (fun c_43 => ?_)
  refine x_iconst (pc := 46) dX8_cable_46 ?_
  exact y_iret (pc := 47) dX8_cable_47 rfl rfl rfl
