/-! the text builder: numbers appended -/
theorem iI_divn {a b : Int} (ha : 0 ≤ a ∧ a < 2147483648) (hb : 0 < b ∧ b < 2147483648) : iI (-a) / iI b = iI (-(a / b)) := by
  have e1 := Int.ediv_nonneg ha.1 (Int.le_of_lt hb.1)
  have e2 := Int.ediv_le_self b ha.1
  have e : inI (-(a / b)) := ⟨by omega, by omega⟩
  apply Int32.toInt_inj.mp
  rw [Int32.toInt_div, iI_toInt ⟨by omega, by omega⟩, iI_toInt ⟨by omega, by omega⟩, iI_toInt e, Int.neg_tdiv, Int.tdiv_eq_ediv_of_nonneg ha.1]
  exact Int.bmod_eq_of_le (by have := e.1; omega) (by have := e.2; omega)
theorem o_idivn {G : GG} {M : Mth} {R : Room} {pc : Nat} {lv : List (Nat × Value)} {st : List Value} {h : Hp} {c0 s0 : Nat} {Q : PP} {a b : Int} (d : decode M.2.1 pc = .ok (.idiv, 1)) (ha : 0 ≤ a ∧ a < 2147483648) (hb : 0 < b ∧ b < 2147483648) (k : YY G M R (pc + 1) lv (.int (iI (-(a / b))) :: st) h c0 s0 Q) : YY G M R pc lv (.int (iI b) :: .int (iI (-a)) :: st) h c0 s0 Q := by
  intro p l e s m args below meth c H locs ls hC hR hS hl
  refine lv_idiv hC.1 hC.2.1 d (iI_ne0 ⟨by omega, by omega⟩ (by omega)) ?_
  rw [iI_divn ha hb]
  exact k p l e s m args below meth c H locs ls hC hR hS hl
theorem dg_1 {n : Int} (h : n < 10) : dg n = [48 + n] := if_pos h
theorem dg_2 {n : Int} (h0 : 10 ≤ n) (h : n < 100) : dg n = [48 + n / 10, 48 + n % 10] := by
  unfold dg
  rw [if_neg (by omega), if_pos h]
theorem dg_3 {n : Int} (h0 : 100 ≤ n) : dg n = [48 + n / 100, 48 + n / 10 % 10, 48 + n % 10] := by
  unfold dg
  rw [if_neg (by omega), if_neg (by omega)]
theorem cb_size1 {G : GG} {h : Hp} {n : Int} (h0 : 0 ≤ n) (h1 : n < 10) : Cy G MJ6_stringSize_0f7a4 (rmL 0 0 0) [.int (iI n)] h (fun v h1 => v = some (.int (iI 1)) ∧ h1 = h) := by
  refine o_entry (by decide +kernel) mwJ6_stringSize_0f7a4 rfl (Nat.le_of_ble_eq_true rfl) ?_
  show YY G MJ6_stringSize_0f7a4 (rmL 0 0 0) 0 [(0, .int (iI n))] [] h 0 0 _
  refine o_iconst (pc := 0) dJ6_stringSize_0f7a4_0 ?_
  refine o_istore_n (pc := 1) (lv' := [(1, _), (0, _)]) dJ6_stringSize_0f7a4_1 rfl (by decide) rfl ?_
  refine o_iload_n (pc := 2) dJ6_stringSize_0f7a4_2 1 rfl ?_
  refine o_if_lt (pc := 3) 11 dJ6_stringSize_0f7a4_3 (by decide) (by unfold inI; omega) (fun c_3 => (by exfalso; omega)) (fun c_3 => ?_)
  refine o_iconst (pc := 6) dJ6_stringSize_0f7a4_6 ?_
  refine o_istore_n (pc := 7) (lv' := [(1, _), (0, _)]) dJ6_stringSize_0f7a4_7 rfl (by decide) rfl ?_
  refine o_iload_n (pc := 8) dJ6_stringSize_0f7a4_8 1 rfl ?_
  refine o_ineg (pc := 9) dJ6_stringSize_0f7a4_9 ?_
  refine o_istore_n (pc := 10) (lv' := [(0, _), (1, _)]) dJ6_stringSize_0f7a4_10 rfl (by decide) rfl ?_
  refine o_bipush (pc := 11) (z := (-10)) dJ6_stringSize_0f7a4_11 (by decide) ?_
  refine o_istore_n (pc := 13) (lv' := [(2, _), (0, _), (1, _)]) dJ6_stringSize_0f7a4_13 rfl (by decide) rfl ?_
  refine o_iconst (pc := 14) dJ6_stringSize_0f7a4_14 ?_
  refine o_istore_n (pc := 15) (lv' := [(3, _), (2, _), (0, _), (1, _)]) dJ6_stringSize_0f7a4_15 rfl (by decide) rfl ?_
  refine o_iload_n (pc := 16) dJ6_stringSize_0f7a4_16 0 rfl ?_
  refine o_bipush (pc := 17) (z := 10) dJ6_stringSize_0f7a4_17 (by decide) ?_
  refine o_icmp_ge (pc := 19) 42 dJ6_stringSize_0f7a4_19 (by decide) (by unfold inI; omega) (by unfold inI; omega) (fun c_19 => (by exfalso; omega)) (fun c_19 => ?_)
  refine o_iload_n (pc := 22) dJ6_stringSize_0f7a4_22 2 rfl ?_
  refine o_iload_n (pc := 23) dJ6_stringSize_0f7a4_23 1 rfl ?_
  refine o_icmp_le (pc := 24) 31 dJ6_stringSize_0f7a4_24 (by decide) (by unfold inI; omega) (by unfold inI; omega) (fun c_24 => (by exfalso; omega)) (fun c_24 => ?_)
  refine o_iload_n (pc := 27) dJ6_stringSize_0f7a4_27 0 rfl ?_
  refine o_iload_n (pc := 28) dJ6_stringSize_0f7a4_28 3 rfl ?_
  refine o_iadd (pc := 29) dJ6_stringSize_0f7a4_29 ?_
  exact o_iret (pc := 30) dJ6_stringSize_0f7a4_30 rfl (Nat.le_of_ble_eq_true rfl) (Nat.le_of_ble_eq_true rfl) ⟨rfl, rfl⟩
theorem cb_size2 {G : GG} {h : Hp} {n : Int} (h0 : 0 ≤ n) (h1 : 10 ≤ n ∧ n < 100) : Cy G MJ6_stringSize_0f7a4 (rmL 0 0 0) [.int (iI n)] h (fun v h1 => v = some (.int (iI 2)) ∧ h1 = h) := by
  refine o_entry (by decide +kernel) mwJ6_stringSize_0f7a4 rfl (Nat.le_of_ble_eq_true rfl) ?_
  show YY G MJ6_stringSize_0f7a4 (rmL 0 0 0) 0 [(0, .int (iI n))] [] h 0 0 _
  refine o_iconst (pc := 0) dJ6_stringSize_0f7a4_0 ?_
  refine o_istore_n (pc := 1) (lv' := [(1, _), (0, _)]) dJ6_stringSize_0f7a4_1 rfl (by decide) rfl ?_
  refine o_iload_n (pc := 2) dJ6_stringSize_0f7a4_2 1 rfl ?_
  refine o_if_lt (pc := 3) 11 dJ6_stringSize_0f7a4_3 (by decide) (by unfold inI; omega) (fun c_3 => (by exfalso; omega)) (fun c_3 => ?_)
  refine o_iconst (pc := 6) dJ6_stringSize_0f7a4_6 ?_
  refine o_istore_n (pc := 7) (lv' := [(1, _), (0, _)]) dJ6_stringSize_0f7a4_7 rfl (by decide) rfl ?_
  refine o_iload_n (pc := 8) dJ6_stringSize_0f7a4_8 1 rfl ?_
  refine o_ineg (pc := 9) dJ6_stringSize_0f7a4_9 ?_
  refine o_istore_n (pc := 10) (lv' := [(0, _), (1, _)]) dJ6_stringSize_0f7a4_10 rfl (by decide) rfl ?_
  refine o_bipush (pc := 11) (z := (-10)) dJ6_stringSize_0f7a4_11 (by decide) ?_
  refine o_istore_n (pc := 13) (lv' := [(2, _), (0, _), (1, _)]) dJ6_stringSize_0f7a4_13 rfl (by decide) rfl ?_
  refine o_iconst (pc := 14) dJ6_stringSize_0f7a4_14 ?_
  refine o_istore_n (pc := 15) (lv' := [(3, _), (2, _), (0, _), (1, _)]) dJ6_stringSize_0f7a4_15 rfl (by decide) rfl ?_
  refine o_iload_n (pc := 16) dJ6_stringSize_0f7a4_16 0 rfl ?_
  refine o_bipush (pc := 17) (z := 10) dJ6_stringSize_0f7a4_17 (by decide) ?_
  refine o_icmp_ge (pc := 19) 42 dJ6_stringSize_0f7a4_19 (by decide) (by unfold inI; omega) (by unfold inI; omega) (fun c_19 => (by exfalso; omega)) (fun c_19 => ?_)
  refine o_iload_n (pc := 22) dJ6_stringSize_0f7a4_22 2 rfl ?_
  refine o_iload_n (pc := 23) dJ6_stringSize_0f7a4_23 1 rfl ?_
  refine o_icmp_le (pc := 24) 31 dJ6_stringSize_0f7a4_24 (by decide) (by unfold inI; omega) (by unfold inI; omega) (fun c_24 => ?_) (fun c_24 => (by exfalso; omega))
  refine o_bipush (pc := 31) (z := 10) dJ6_stringSize_0f7a4_31 (by decide) ?_
  refine o_iload_n (pc := 33) dJ6_stringSize_0f7a4_33 1 rfl ?_
  refine o_imul (pc := 34) dJ6_stringSize_0f7a4_34 ?_
  refine o_istore_n (pc := 35) (lv' := [(2, _), (3, _), (0, _), (1, _)]) dJ6_stringSize_0f7a4_35 rfl (by decide) rfl ?_
  refine o_iinc (pc := 36) (lv' := [(3, _), (2, _), (0, _), (1, _)]) dJ6_stringSize_0f7a4_36 1 rfl (by decide) rfl ?_
  refine o_goto (pc := 39) 16 dJ6_stringSize_0f7a4_39 (by decide) ?_
  refine o_iload_n (pc := 16) dJ6_stringSize_0f7a4_16 0 rfl ?_
  refine o_bipush (pc := 17) (z := 10) dJ6_stringSize_0f7a4_17 (by decide) ?_
  refine o_icmp_ge (pc := 19) 42 dJ6_stringSize_0f7a4_19 (by decide) (by unfold inI; omega) (by unfold inI; omega) (fun c_19 => (by exfalso; omega)) (fun c_19 => ?_)
  refine o_iload_n (pc := 22) dJ6_stringSize_0f7a4_22 2 rfl ?_
  refine o_iload_n (pc := 23) dJ6_stringSize_0f7a4_23 1 rfl ?_
  refine o_icmp_le (pc := 24) 31 dJ6_stringSize_0f7a4_24 (by decide) (by unfold inI; omega) (by unfold inI; omega) (fun c_24 => (by exfalso; omega)) (fun c_24 => ?_)
  refine o_iload_n (pc := 27) dJ6_stringSize_0f7a4_27 0 rfl ?_
  refine o_iload_n (pc := 28) dJ6_stringSize_0f7a4_28 3 rfl ?_
  refine o_iadd (pc := 29) dJ6_stringSize_0f7a4_29 ?_
  exact o_iret (pc := 30) dJ6_stringSize_0f7a4_30 rfl (Nat.le_of_ble_eq_true rfl) (Nat.le_of_ble_eq_true rfl) ⟨rfl, rfl⟩
theorem cb_size3 {G : GG} {h : Hp} {n : Int} (h0 : 0 ≤ n) (h1 : 100 ≤ n ∧ n < 1000) : Cy G MJ6_stringSize_0f7a4 (rmL 0 0 0) [.int (iI n)] h (fun v h1 => v = some (.int (iI 3)) ∧ h1 = h) := by
  refine o_entry (by decide +kernel) mwJ6_stringSize_0f7a4 rfl (Nat.le_of_ble_eq_true rfl) ?_
  show YY G MJ6_stringSize_0f7a4 (rmL 0 0 0) 0 [(0, .int (iI n))] [] h 0 0 _
  refine o_iconst (pc := 0) dJ6_stringSize_0f7a4_0 ?_
  refine o_istore_n (pc := 1) (lv' := [(1, _), (0, _)]) dJ6_stringSize_0f7a4_1 rfl (by decide) rfl ?_
  refine o_iload_n (pc := 2) dJ6_stringSize_0f7a4_2 1 rfl ?_
  refine o_if_lt (pc := 3) 11 dJ6_stringSize_0f7a4_3 (by decide) (by unfold inI; omega) (fun c_3 => (by exfalso; omega)) (fun c_3 => ?_)
  refine o_iconst (pc := 6) dJ6_stringSize_0f7a4_6 ?_
  refine o_istore_n (pc := 7) (lv' := [(1, _), (0, _)]) dJ6_stringSize_0f7a4_7 rfl (by decide) rfl ?_
  refine o_iload_n (pc := 8) dJ6_stringSize_0f7a4_8 1 rfl ?_
  refine o_ineg (pc := 9) dJ6_stringSize_0f7a4_9 ?_
  refine o_istore_n (pc := 10) (lv' := [(0, _), (1, _)]) dJ6_stringSize_0f7a4_10 rfl (by decide) rfl ?_
  refine o_bipush (pc := 11) (z := (-10)) dJ6_stringSize_0f7a4_11 (by decide) ?_
  refine o_istore_n (pc := 13) (lv' := [(2, _), (0, _), (1, _)]) dJ6_stringSize_0f7a4_13 rfl (by decide) rfl ?_
  refine o_iconst (pc := 14) dJ6_stringSize_0f7a4_14 ?_
  refine o_istore_n (pc := 15) (lv' := [(3, _), (2, _), (0, _), (1, _)]) dJ6_stringSize_0f7a4_15 rfl (by decide) rfl ?_
  refine o_iload_n (pc := 16) dJ6_stringSize_0f7a4_16 0 rfl ?_
  refine o_bipush (pc := 17) (z := 10) dJ6_stringSize_0f7a4_17 (by decide) ?_
  refine o_icmp_ge (pc := 19) 42 dJ6_stringSize_0f7a4_19 (by decide) (by unfold inI; omega) (by unfold inI; omega) (fun c_19 => (by exfalso; omega)) (fun c_19 => ?_)
  refine o_iload_n (pc := 22) dJ6_stringSize_0f7a4_22 2 rfl ?_
  refine o_iload_n (pc := 23) dJ6_stringSize_0f7a4_23 1 rfl ?_
  refine o_icmp_le (pc := 24) 31 dJ6_stringSize_0f7a4_24 (by decide) (by unfold inI; omega) (by unfold inI; omega) (fun c_24 => ?_) (fun c_24 => (by exfalso; omega))
  refine o_bipush (pc := 31) (z := 10) dJ6_stringSize_0f7a4_31 (by decide) ?_
  refine o_iload_n (pc := 33) dJ6_stringSize_0f7a4_33 1 rfl ?_
  refine o_imul (pc := 34) dJ6_stringSize_0f7a4_34 ?_
  refine o_istore_n (pc := 35) (lv' := [(2, _), (3, _), (0, _), (1, _)]) dJ6_stringSize_0f7a4_35 rfl (by decide) rfl ?_
  refine o_iinc (pc := 36) (lv' := [(3, _), (2, _), (0, _), (1, _)]) dJ6_stringSize_0f7a4_36 1 rfl (by decide) rfl ?_
  refine o_goto (pc := 39) 16 dJ6_stringSize_0f7a4_39 (by decide) ?_
  refine o_iload_n (pc := 16) dJ6_stringSize_0f7a4_16 0 rfl ?_
  refine o_bipush (pc := 17) (z := 10) dJ6_stringSize_0f7a4_17 (by decide) ?_
  refine o_icmp_ge (pc := 19) 42 dJ6_stringSize_0f7a4_19 (by decide) (by unfold inI; omega) (by unfold inI; omega) (fun c_19 => (by exfalso; omega)) (fun c_19 => ?_)
  refine o_iload_n (pc := 22) dJ6_stringSize_0f7a4_22 2 rfl ?_
  refine o_iload_n (pc := 23) dJ6_stringSize_0f7a4_23 1 rfl ?_
  refine o_icmp_le (pc := 24) 31 dJ6_stringSize_0f7a4_24 (by decide) (by unfold inI; omega) (by unfold inI; omega) (fun c_24 => ?_) (fun c_24 => (by exfalso; omega))
  refine o_bipush (pc := 31) (z := 10) dJ6_stringSize_0f7a4_31 (by decide) ?_
  refine o_iload_n (pc := 33) dJ6_stringSize_0f7a4_33 1 rfl ?_
  refine o_imul (pc := 34) dJ6_stringSize_0f7a4_34 ?_
  refine o_istore_n (pc := 35) (lv' := [(2, _), (3, _), (0, _), (1, _)]) dJ6_stringSize_0f7a4_35 rfl (by decide) rfl ?_
  refine o_iinc (pc := 36) (lv' := [(3, _), (2, _), (0, _), (1, _)]) dJ6_stringSize_0f7a4_36 1 rfl (by decide) rfl ?_
  refine o_goto (pc := 39) 16 dJ6_stringSize_0f7a4_39 (by decide) ?_
  refine o_iload_n (pc := 16) dJ6_stringSize_0f7a4_16 0 rfl ?_
  refine o_bipush (pc := 17) (z := 10) dJ6_stringSize_0f7a4_17 (by decide) ?_
  refine o_icmp_ge (pc := 19) 42 dJ6_stringSize_0f7a4_19 (by decide) (by unfold inI; omega) (by unfold inI; omega) (fun c_19 => (by exfalso; omega)) (fun c_19 => ?_)
  refine o_iload_n (pc := 22) dJ6_stringSize_0f7a4_22 2 rfl ?_
  refine o_iload_n (pc := 23) dJ6_stringSize_0f7a4_23 1 rfl ?_
  refine o_icmp_le (pc := 24) 31 dJ6_stringSize_0f7a4_24 (by decide) (by unfold inI; omega) (by unfold inI; omega) (fun c_24 => (by exfalso; omega)) (fun c_24 => ?_)
  refine o_iload_n (pc := 27) dJ6_stringSize_0f7a4_27 0 rfl ?_
  refine o_iload_n (pc := 28) dJ6_stringSize_0f7a4_28 3 rfl ?_
  refine o_iadd (pc := 29) dJ6_stringSize_0f7a4_29 ?_
  exact o_iret (pc := 30) dJ6_stringSize_0f7a4_30 rfl (Nat.le_of_ble_eq_true rfl) (Nat.le_of_ble_eq_true rfl) ⟨rfl, rfl⟩
theorem cb_size {G : GG} {h : Hp} {n : Int} (h0 : 0 ≤ n) (h1 : n < 1000) : Cy G MJ6_stringSize_0f7a4 (rmL 0 0 0) [.int (iI n)] h (fun v h1 => v = some (.int (iI ((dg n).length : Int))) ∧ h1 = h) := by
  by_cases c1 : n < 10
  · rw [dg_1 c1]; exact cb_size1 h0 c1
  · by_cases c2 : n < 100
    · rw [dg_2 (by omega) c2]; exact cb_size2 h0 ⟨by omega, c2⟩
    · rw [dg_3 (by omega)]; exact cb_size3 h0 ⟨by omega, h1⟩
def GCH (h h1 : Hp) (cap val : Nat) (e n : Int) : Prop := h1.1 = h.1 ∧ h1.2.2 = h.2.2 ∧ (∀ k i, ¬ (k = ak 1 cap ∧ i = val) → h1.2.1 k i = h.2.1 k i) ∧ (∀ j, ¬ (e - ((dg n).length : Int) ≤ j ∧ j < e) → h1.2.1 (ak 1 cap) val j = h.2.1 (ak 1 cap) val j) ∧ TXat (h1.2.1 (ak 1 cap) val) (e - ((dg n).length : Int)) (dg n) ∧ ∀ (S : Nat → Prop) (h0 : Hp), Fr S h0 h → (S val ∨ fre h0 val) → Fr S h0 h1
theorem hset_n {h : Hp} {k i k' i' : Nat} {j z : Int} (hn : ¬ (k' = k ∧ i' = i)) : (hset h k i j z).2.1 k' i' = h.2.1 k' i' := funext fun _ => hset_off (fun e => hn ⟨e.1, e.2.1⟩)
theorem cb_getC1 {G : GG} {h : Hp} {cap val : Nat} (hm : (ak 1 cap, val) ∈ h.1) (hc : cap ≤ 1300) {n e : Int} (h0 : 0 ≤ n) (he : (((dg n).length : Nat) : Int) ≤ e ∧ e ≤ cap) (h1 : n < 10) : Cy G MJ6_getChars_ba4f3 (rmL 0 0 0) [.int (iI n), .int (iI e), rf G (ak 1 cap) val] h (fun v h1 => (∃ z, v = some (.int (iI z))) ∧ GCH h h1 cap val e n) := by
  refine o_entry (by decide +kernel) mwJ6_getChars_ba4f3 rfl (Nat.le_of_ble_eq_true rfl) ?_
  show YY G MJ6_getChars_ba4f3 (rmL 0 0 0) 0 [(0, .int (iI n)), (1, .int (iI e)), (2, rf G (ak 1 cap) val)] [] h 0 0 _
  have ed := dg_1 h1
  rw [ed] at he
  change ((1 : Nat) : Int) ≤ e ∧ _ at he
  refine o_iload_n (pc := 0) dJ6_getChars_ba4f3_0 1 rfl ?_
  refine o_istore (pc := 1) (lv' := [(5, _), (0, _), (1, _), (2, _)]) dJ6_getChars_ba4f3_1 (by decide) rfl ?_
  refine o_iload_n (pc := 3) dJ6_getChars_ba4f3_3 1 rfl ?_
  refine o_if_ge (pc := 4) 11 dJ6_getChars_ba4f3_4 (by decide) (by unfold inI; omega) (fun c_4 => ?_) (fun c_4 => (by exfalso; omega))
  refine o_iconst (pc := 11) dJ6_getChars_ba4f3_11 ?_
  refine o_istore (pc := 12) (lv' := [(6, _), (5, _), (0, _), (1, _), (2, _)]) dJ6_getChars_ba4f3_12 (by decide) rfl ?_
  refine o_iload (pc := 14) dJ6_getChars_ba4f3_14 0 rfl ?_
  refine o_if_ne (pc := 16) 22 dJ6_getChars_ba4f3_16 (by decide) (by unfold inI; omega) (fun c_16 => (by exfalso; omega)) (fun c_16 => ?_)
  refine o_iload_n (pc := 19) dJ6_getChars_ba4f3_19 2 rfl ?_
  refine o_ineg (pc := 20) dJ6_getChars_ba4f3_20 ?_
  refine o_istore_n (pc := 21) (lv' := [(0, _), (6, _), (5, _), (1, _), (2, _)]) dJ6_getChars_ba4f3_21 rfl (by decide) rfl ?_
  refine o_iload_n (pc := 22) dJ6_getChars_ba4f3_22 0 rfl ?_
  refine o_bipush (pc := 23) (z := (-100)) dJ6_getChars_ba4f3_23 (by decide) ?_
  refine o_icmp_gt (pc := 25) 72 dJ6_getChars_ba4f3_25 (by decide) (by unfold inI; omega) (by unfold inI; omega) (fun c_25 => ?_) (fun c_25 => (by exfalso; omega))
  refine o_aload_n (pc := 72) dJ6_getChars_ba4f3_72 4 rfl ?_
  refine o_iinc (pc := 73) (lv' := [(5, _), (0, _), (6, _), (1, _), (2, _)]) dJ6_getChars_ba4f3_73 2 rfl (by decide) rfl ?_
  refine o_iload (pc := 76) dJ6_getChars_ba4f3_76 0 rfl ?_
  refine o_ones (pc := 78) dJ6_getChars_ba4f3_78 fsJ6_83 ?_
  refine o_iload_n (pc := 81) dJ6_getChars_ba4f3_81 1 rfl ?_
  refine o_ineg (pc := 82) dJ6_getChars_ba4f3_82 ?_
  refine o_topI (y := n) (by omega) ?_
  refine o_onesAt (pc := 83) (z := n) (by omega) dJ6_getChars_ba4f3_83 ?_
  refine o_bsI (pc := 84) dJ6_getChars_ba4f3_84 (shp_ak (by decide)) hm (by omega) (by omega) (by omega) ?_
  refine o_iload_n (pc := 85) dJ6_getChars_ba4f3_85 1 rfl ?_
  refine o_bipush (pc := 86) (z := (-9)) dJ6_getChars_ba4f3_86 (by decide) ?_
  refine o_icmp_ge (pc := 88) 104 dJ6_getChars_ba4f3_88 (by decide) (by unfold inI; omega) (by unfold inI; omega) (fun c_88 => ?_) (fun c_88 => (by exfalso; omega))
  refine o_iload (pc := 104) dJ6_getChars_ba4f3_104 2 rfl ?_
  refine o_if_eq (pc := 106) 118 dJ6_getChars_ba4f3_106 (by decide) (by unfold inI; omega) (fun c_106 => ?_) (fun c_106 => (by exfalso; omega))
  refine o_iload (pc := 118) dJ6_getChars_ba4f3_118 0 rfl ?_
  refine o_iret (pc := 120) dJ6_getChars_ba4f3_120 rfl (by first | omega | (simp only [rmL, rmD]; omega)) (by first | omega | (simp only [rmL, rmD]; omega)) ?_
  refine ⟨⟨_, rfl⟩, rfl, rfl, fun k i hk => ?_, fun j hj => ?_, ?_, fun S h9 F hv => Fr_hset (F) ak_ge hv⟩
  · simp only [hset_n hk]
  · rw [ed] at hj
    change ¬ (e - 1 ≤ j ∧ j < e) at hj
    rw [hset_off (by omega)]
  · rw [ed]
    refine ⟨(by refine (hset_eq (by simp only [List.length_cons, List.length_nil]; omega)).trans ?_; omega), trivial⟩
theorem cb_getC2 {G : GG} {h : Hp} {cap val : Nat} (hm : (ak 1 cap, val) ∈ h.1) (hc : cap ≤ 1300) {n e : Int} (h0 : 0 ≤ n) (he : (((dg n).length : Nat) : Int) ≤ e ∧ e ≤ cap) (h1 : 10 ≤ n ∧ n < 100) : Cy G MJ6_getChars_ba4f3 (rmL 0 0 0) [.int (iI n), .int (iI e), rf G (ak 1 cap) val] h (fun v h1 => (∃ z, v = some (.int (iI z))) ∧ GCH h h1 cap val e n) := by
  refine o_entry (by decide +kernel) mwJ6_getChars_ba4f3 rfl (Nat.le_of_ble_eq_true rfl) ?_
  show YY G MJ6_getChars_ba4f3 (rmL 0 0 0) 0 [(0, .int (iI n)), (1, .int (iI e)), (2, rf G (ak 1 cap) val)] [] h 0 0 _
  have ed := dg_2 h1.1 h1.2
  rw [ed] at he
  change ((2 : Nat) : Int) ≤ e ∧ _ at he
  refine o_iload_n (pc := 0) dJ6_getChars_ba4f3_0 1 rfl ?_
  refine o_istore (pc := 1) (lv' := [(5, _), (0, _), (1, _), (2, _)]) dJ6_getChars_ba4f3_1 (by decide) rfl ?_
  refine o_iload_n (pc := 3) dJ6_getChars_ba4f3_3 1 rfl ?_
  refine o_if_ge (pc := 4) 11 dJ6_getChars_ba4f3_4 (by decide) (by unfold inI; omega) (fun c_4 => ?_) (fun c_4 => (by exfalso; omega))
  refine o_iconst (pc := 11) dJ6_getChars_ba4f3_11 ?_
  refine o_istore (pc := 12) (lv' := [(6, _), (5, _), (0, _), (1, _), (2, _)]) dJ6_getChars_ba4f3_12 (by decide) rfl ?_
  refine o_iload (pc := 14) dJ6_getChars_ba4f3_14 0 rfl ?_
  refine o_if_ne (pc := 16) 22 dJ6_getChars_ba4f3_16 (by decide) (by unfold inI; omega) (fun c_16 => (by exfalso; omega)) (fun c_16 => ?_)
  refine o_iload_n (pc := 19) dJ6_getChars_ba4f3_19 2 rfl ?_
  refine o_ineg (pc := 20) dJ6_getChars_ba4f3_20 ?_
  refine o_istore_n (pc := 21) (lv' := [(0, _), (6, _), (5, _), (1, _), (2, _)]) dJ6_getChars_ba4f3_21 rfl (by decide) rfl ?_
  refine o_iload_n (pc := 22) dJ6_getChars_ba4f3_22 0 rfl ?_
  refine o_bipush (pc := 23) (z := (-100)) dJ6_getChars_ba4f3_23 (by decide) ?_
  refine o_icmp_gt (pc := 25) 72 dJ6_getChars_ba4f3_25 (by decide) (by unfold inI; omega) (by unfold inI; omega) (fun c_25 => ?_) (fun c_25 => (by exfalso; omega))
  refine o_aload_n (pc := 72) dJ6_getChars_ba4f3_72 4 rfl ?_
  refine o_iinc (pc := 73) (lv' := [(5, _), (0, _), (6, _), (1, _), (2, _)]) dJ6_getChars_ba4f3_73 2 rfl (by decide) rfl ?_
  refine o_iload (pc := 76) dJ6_getChars_ba4f3_76 0 rfl ?_
  refine o_ones (pc := 78) dJ6_getChars_ba4f3_78 fsJ6_83 ?_
  refine o_iload_n (pc := 81) dJ6_getChars_ba4f3_81 1 rfl ?_
  refine o_ineg (pc := 82) dJ6_getChars_ba4f3_82 ?_
  refine o_topI (y := n) (by omega) ?_
  refine o_onesAt (pc := 83) (z := n) (by omega) dJ6_getChars_ba4f3_83 ?_
  refine o_bsI (pc := 84) dJ6_getChars_ba4f3_84 (shp_ak (by decide)) hm (by omega) (by omega) (by omega) ?_
  refine o_iload_n (pc := 85) dJ6_getChars_ba4f3_85 1 rfl ?_
  refine o_bipush (pc := 86) (z := (-9)) dJ6_getChars_ba4f3_86 (by decide) ?_
  refine o_icmp_ge (pc := 88) 104 dJ6_getChars_ba4f3_88 (by decide) (by unfold inI; omega) (by unfold inI; omega) (fun c_88 => (by exfalso; omega)) (fun c_88 => ?_)
  refine o_aload_n (pc := 91) dJ6_getChars_ba4f3_91 4 rfl ?_
  refine o_iinc (pc := 92) (lv' := [(5, _), (0, _), (6, _), (1, _), (2, _)]) dJ6_getChars_ba4f3_92 0 rfl (by decide) rfl ?_
  refine o_iload (pc := 95) dJ6_getChars_ba4f3_95 0 rfl ?_
  refine o_tens (pc := 97) dJ6_getChars_ba4f3_97 fsJ6_87 ?_
  refine o_iload_n (pc := 100) dJ6_getChars_ba4f3_100 1 rfl ?_
  refine o_ineg (pc := 101) dJ6_getChars_ba4f3_101 ?_
  refine o_topI (y := n) (by omega) ?_
  refine o_tensAt (pc := 102) (z := n) (by omega) dJ6_getChars_ba4f3_102 ?_
  refine o_bsI (pc := 103) dJ6_getChars_ba4f3_103 (shp_ak (by decide)) hm (by omega) (by omega) (by omega) ?_
  refine o_iload (pc := 104) dJ6_getChars_ba4f3_104 2 rfl ?_
  refine o_if_eq (pc := 106) 118 dJ6_getChars_ba4f3_106 (by decide) (by unfold inI; omega) (fun c_106 => ?_) (fun c_106 => (by exfalso; omega))
  refine o_iload (pc := 118) dJ6_getChars_ba4f3_118 0 rfl ?_
  refine o_iret (pc := 120) dJ6_getChars_ba4f3_120 rfl (by first | omega | (simp only [rmL, rmD]; omega)) (by first | omega | (simp only [rmL, rmD]; omega)) ?_
  refine ⟨⟨_, rfl⟩, rfl, rfl, fun k i hk => ?_, fun j hj => ?_, ?_, fun S h9 F hv => Fr_hset (Fr_hset (F) ak_ge hv) ak_ge hv⟩
  · simp only [hset_n hk]
  · rw [ed] at hj
    change ¬ (e - 2 ≤ j ∧ j < e) at hj
    rw [hset_off (by omega)]
    rw [hset_off (by omega)]
  · rw [ed]
    refine ⟨(by refine (hset_eq (by simp only [List.length_cons, List.length_nil]; omega)).trans ?_; omega), (by rw [hset_off (by simp only [List.length_cons, List.length_nil]; omega)]; refine (hset_eq (by simp only [List.length_cons, List.length_nil]; omega)).trans ?_; omega), trivial⟩
theorem cb_getC3 {G : GG} {h : Hp} {cap val : Nat} (hm : (ak 1 cap, val) ∈ h.1) (hc : cap ≤ 1300) {n e : Int} (h0 : 0 ≤ n) (he : (((dg n).length : Nat) : Int) ≤ e ∧ e ≤ cap) (h1 : 100 ≤ n ∧ n < 1000) : Cy G MJ6_getChars_ba4f3 (rmL 0 0 0) [.int (iI n), .int (iI e), rf G (ak 1 cap) val] h (fun v h1 => (∃ z, v = some (.int (iI z))) ∧ GCH h h1 cap val e n) := by
  refine o_entry (by decide +kernel) mwJ6_getChars_ba4f3 rfl (Nat.le_of_ble_eq_true rfl) ?_
  show YY G MJ6_getChars_ba4f3 (rmL 0 0 0) 0 [(0, .int (iI n)), (1, .int (iI e)), (2, rf G (ak 1 cap) val)] [] h 0 0 _
  have ed := dg_3 h1.1
  rw [ed] at he
  change ((3 : Nat) : Int) ≤ e ∧ _ at he
  refine o_iload_n (pc := 0) dJ6_getChars_ba4f3_0 1 rfl ?_
  refine o_istore (pc := 1) (lv' := [(5, _), (0, _), (1, _), (2, _)]) dJ6_getChars_ba4f3_1 (by decide) rfl ?_
  refine o_iload_n (pc := 3) dJ6_getChars_ba4f3_3 1 rfl ?_
  refine o_if_ge (pc := 4) 11 dJ6_getChars_ba4f3_4 (by decide) (by unfold inI; omega) (fun c_4 => ?_) (fun c_4 => (by exfalso; omega))
  refine o_iconst (pc := 11) dJ6_getChars_ba4f3_11 ?_
  refine o_istore (pc := 12) (lv' := [(6, _), (5, _), (0, _), (1, _), (2, _)]) dJ6_getChars_ba4f3_12 (by decide) rfl ?_
  refine o_iload (pc := 14) dJ6_getChars_ba4f3_14 0 rfl ?_
  refine o_if_ne (pc := 16) 22 dJ6_getChars_ba4f3_16 (by decide) (by unfold inI; omega) (fun c_16 => (by exfalso; omega)) (fun c_16 => ?_)
  refine o_iload_n (pc := 19) dJ6_getChars_ba4f3_19 2 rfl ?_
  refine o_ineg (pc := 20) dJ6_getChars_ba4f3_20 ?_
  refine o_istore_n (pc := 21) (lv' := [(0, _), (6, _), (5, _), (1, _), (2, _)]) dJ6_getChars_ba4f3_21 rfl (by decide) rfl ?_
  refine o_iload_n (pc := 22) dJ6_getChars_ba4f3_22 0 rfl ?_
  refine o_bipush (pc := 23) (z := (-100)) dJ6_getChars_ba4f3_23 (by decide) ?_
  refine o_icmp_gt (pc := 25) 72 dJ6_getChars_ba4f3_25 (by decide) (by unfold inI; omega) (by unfold inI; omega) (fun c_25 => (by exfalso; omega)) (fun c_25 => ?_)
  refine o_iload_n (pc := 28) dJ6_getChars_ba4f3_28 0 rfl ?_
  refine o_bipush (pc := 29) (z := 100) dJ6_getChars_ba4f3_29 (by decide) ?_
  refine o_idivn (pc := 31) dJ6_getChars_ba4f3_31 (by omega) (by omega) ?_
  refine o_istore_n (pc := 32) (lv' := [(3, _), (0, _), (6, _), (5, _), (1, _), (2, _)]) dJ6_getChars_ba4f3_32 rfl (by decide) rfl ?_
  refine o_iload_n (pc := 33) dJ6_getChars_ba4f3_33 0 rfl ?_
  refine o_bipush (pc := 34) (z := 100) dJ6_getChars_ba4f3_34 (by decide) ?_
  refine o_imul (pc := 36) dJ6_getChars_ba4f3_36 ?_
  refine o_iload_n (pc := 37) dJ6_getChars_ba4f3_37 1 rfl ?_
  refine o_isub (pc := 38) dJ6_getChars_ba4f3_38 ?_
  refine o_topI (y := n % 100) (by omega) ?_
  refine o_istore (pc := 39) (lv' := [(4, _), (3, _), (0, _), (6, _), (5, _), (1, _), (2, _)]) dJ6_getChars_ba4f3_39 (by decide) rfl ?_
  refine o_iload_n (pc := 41) dJ6_getChars_ba4f3_41 1 rfl ?_
  refine o_istore_n (pc := 42) (lv' := [(0, _), (4, _), (3, _), (6, _), (5, _), (1, _), (2, _)]) dJ6_getChars_ba4f3_42 rfl (by decide) rfl ?_
  refine o_aload_n (pc := 43) dJ6_getChars_ba4f3_43 6 rfl ?_
  refine o_iinc (pc := 44) (lv' := [(5, _), (0, _), (4, _), (3, _), (6, _), (1, _), (2, _)]) dJ6_getChars_ba4f3_44 4 rfl (by decide) rfl ?_
  refine o_iload (pc := 47) dJ6_getChars_ba4f3_47 0 rfl ?_
  refine o_ones (pc := 49) dJ6_getChars_ba4f3_49 fsJ6_83 ?_
  refine o_iload (pc := 52) dJ6_getChars_ba4f3_52 2 rfl ?_
  refine o_onesAt (pc := 54) (z := n % 100) (by omega) dJ6_getChars_ba4f3_54 ?_
  refine o_bsI (pc := 55) dJ6_getChars_ba4f3_55 (shp_ak (by decide)) hm (by omega) (by omega) (by omega) ?_
  refine o_aload_n (pc := 56) dJ6_getChars_ba4f3_56 6 rfl ?_
  refine o_iinc (pc := 57) (lv' := [(5, _), (0, _), (4, _), (3, _), (6, _), (1, _), (2, _)]) dJ6_getChars_ba4f3_57 0 rfl (by decide) rfl ?_
  refine o_iload (pc := 60) dJ6_getChars_ba4f3_60 0 rfl ?_
  refine o_tens (pc := 62) dJ6_getChars_ba4f3_62 fsJ6_87 ?_
  refine o_iload (pc := 65) dJ6_getChars_ba4f3_65 2 rfl ?_
  refine o_tensAt (pc := 67) (z := n % 100) (by omega) dJ6_getChars_ba4f3_67 ?_
  refine o_bsI (pc := 68) dJ6_getChars_ba4f3_68 (shp_ak (by decide)) hm (by omega) (by omega) (by omega) ?_
  refine o_goto (pc := 69) 22 dJ6_getChars_ba4f3_69 (by decide) ?_
  refine o_iload_n (pc := 22) dJ6_getChars_ba4f3_22 1 rfl ?_
  refine o_bipush (pc := 23) (z := (-100)) dJ6_getChars_ba4f3_23 (by decide) ?_
  refine o_icmp_gt (pc := 25) 72 dJ6_getChars_ba4f3_25 (by decide) (by unfold inI; omega) (by unfold inI; omega) (fun c_25 => ?_) (fun c_25 => (by exfalso; omega))
  refine o_aload_n (pc := 72) dJ6_getChars_ba4f3_72 6 rfl ?_
  refine o_iinc (pc := 73) (lv' := [(5, _), (0, _), (4, _), (3, _), (6, _), (1, _), (2, _)]) dJ6_getChars_ba4f3_73 0 rfl (by decide) rfl ?_
  refine o_iload (pc := 76) dJ6_getChars_ba4f3_76 0 rfl ?_
  refine o_ones (pc := 78) dJ6_getChars_ba4f3_78 fsJ6_83 ?_
  refine o_iload_n (pc := 81) dJ6_getChars_ba4f3_81 1 rfl ?_
  refine o_ineg (pc := 82) dJ6_getChars_ba4f3_82 ?_
  refine o_topI (y := n / 100) (by omega) ?_
  refine o_onesAt (pc := 83) (z := n / 100) (by omega) dJ6_getChars_ba4f3_83 ?_
  refine o_bsI (pc := 84) dJ6_getChars_ba4f3_84 (shp_ak (by decide)) hm (by omega) (by omega) (by omega) ?_
  refine o_iload_n (pc := 85) dJ6_getChars_ba4f3_85 1 rfl ?_
  refine o_bipush (pc := 86) (z := (-9)) dJ6_getChars_ba4f3_86 (by decide) ?_
  refine o_icmp_ge (pc := 88) 104 dJ6_getChars_ba4f3_88 (by decide) (by unfold inI; omega) (by unfold inI; omega) (fun c_88 => ?_) (fun c_88 => (by exfalso; omega))
  refine o_iload (pc := 104) dJ6_getChars_ba4f3_104 4 rfl ?_
  refine o_if_eq (pc := 106) 118 dJ6_getChars_ba4f3_106 (by decide) (by unfold inI; omega) (fun c_106 => ?_) (fun c_106 => (by exfalso; omega))
  refine o_iload (pc := 118) dJ6_getChars_ba4f3_118 0 rfl ?_
  refine o_iret (pc := 120) dJ6_getChars_ba4f3_120 rfl (by first | omega | (simp only [rmL, rmD]; omega)) (by first | omega | (simp only [rmL, rmD]; omega)) ?_
  refine ⟨⟨_, rfl⟩, rfl, rfl, fun k i hk => ?_, fun j hj => ?_, ?_, fun S h9 F hv => Fr_hset (Fr_hset (Fr_hset (F) ak_ge hv) ak_ge hv) ak_ge hv⟩
  · simp only [hset_n hk]
  · rw [ed] at hj
    change ¬ (e - 3 ≤ j ∧ j < e) at hj
    rw [hset_off (by omega)]
    rw [hset_off (by omega)]
    rw [hset_off (by omega)]
  · rw [ed]
    refine ⟨(by refine (hset_eq (by simp only [List.length_cons, List.length_nil]; omega)).trans ?_; omega), (by rw [hset_off (by simp only [List.length_cons, List.length_nil]; omega)]; refine (hset_eq (by simp only [List.length_cons, List.length_nil]; omega)).trans ?_; omega), (by rw [hset_off (by simp only [List.length_cons, List.length_nil]; omega)]; rw [hset_off (by simp only [List.length_cons, List.length_nil]; omega)]; refine (hset_eq (by simp only [List.length_cons, List.length_nil]; omega)).trans ?_; omega), trivial⟩
theorem cb_getC {G : GG} {h : Hp} {cap val : Nat} (hm : (ak 1 cap, val) ∈ h.1) (hc : cap ≤ 1300) {n e : Int} (h0 : 0 ≤ n) (he : (((dg n).length : Nat) : Int) ≤ e ∧ e ≤ cap) (h1 : n < 1000) : Cy G MJ6_getChars_ba4f3 (rmL 0 0 0) [.int (iI n), .int (iI e), rf G (ak 1 cap) val] h (fun v h1 => (∃ z, v = some (.int (iI z))) ∧ GCH h h1 cap val e n) := by
  by_cases c1 : n < 10
  · exact cb_getC1 hm hc h0 he c1
  · by_cases c2 : n < 100
    · exact cb_getC2 hm hc h0 he ⟨by omega, c2⟩
    · exact cb_getC3 hm hc h0 he ⟨by omega, h1⟩
theorem cb_appI {G : GG} {h : Hp} {b val cap : Nat} {L : List Int} (hB : BB h b val cap L) (he : ∃ n, h.2.2.2 = some n) (hL : L.length ≤ 580) {n : Int} (h0 : 0 ≤ n) (hn1 : n < 1000) : Cy G MJ5_append_c97b9 (rmL 5 1 1300) [rf G 58 b, .int (iI n)] h (fun v h1 => v = some (rf G 58 b) ∧ ∃ val1 cap1, BB h1 b val1 cap1 (L ++ dg n) ∧ Fr (fun i => i = b ∨ i = val) h h1 ∧ (val1 = val ∨ fre h val1)) := by
  refine o_entry (by decide +kernel) mwJ5_append_c97b9 rfl (Nat.le_of_ble_eq_true rfl) ?_
  show YY G MJ5_append_c97b9 (rmL 5 1 1300) 0 [(0, rf G 58 b), (1, .int (iI n))] [] h 0 0 _
  have hl := hB.2.2.2.2.2.1
  have hc := hB.2.2.2.2.2.2.1
  have hdl := dg_len n
  refine o_aload_n (pc := 0) dJ5_append_c97b9_0 0 rfl ?_
  refine o_gI (pc := 1) (j := 3) dJ5_append_c97b9_1 flJ5_79 rfl rfl hB.1 hB.2.2.2.2.1 ?_
  refine o_istore_n (pc := 4) (lv' := [(2, _), (0, _), (1, _)]) dJ5_append_c97b9_4 rfl (by decide) rfl ?_
  refine o_iload_n (pc := 5) dJ5_append_c97b9_5 0 rfl ?_
  refine o_iload_n (pc := 6) dJ5_append_c97b9_6 2 rfl ?_
  refine o_callS (pc := 7) _ dJ5_append_c97b9_7 (cb_size h0 hn1) lkJ5_245 rfl ⟨⟨by simp only [rmL, rmD]; omega, by simp only [rmL, rmD]; omega⟩, by simp only [rmL, rmD]; omega, by simp only [rmL, rmD]; omega⟩ (Nat.le_of_ble_eq_true rfl) rfl (fun v h1 hq => ?_)
  obtain ⟨rfl, e2⟩ := hq
  obtain rfl := e2.symm
  refine o_iadd (pc := 10) dJ5_append_c97b9_10 ?_
  refine o_istore_n (pc := 11) (lv' := [(3, _), (2, _), (0, _), (1, _)]) dJ5_append_c97b9_11 rfl (by decide) rfl ?_
  refine o_aload_n (pc := 12) dJ5_append_c97b9_12 2 rfl ?_
  refine o_iload_n (pc := 13) dJ5_append_c97b9_13 0 rfl ?_
  refine o_callP (pc := 14) (q := (RJ4, TJ4, 4)) _ dJ5_append_c97b9_14 (cb_ens hB he (by omega)) lpJ5_100 rfl rfl rfl hB.1 ⟨⟨by simp only [rmL, rmD]; omega, by simp only [rmL, rmD]; omega⟩, by simp only [rmL, rmD]; omega, by simp only [rmL, rmD]; omega⟩ (Nat.le_of_ble_eq_true rfl) rfl (fun v h1 hq => ?_)
  obtain ⟨rfl, v1, c1, B1, hm1, F1, hv⟩ := hq
  refine o_uq (fun hu1 => ?_)
  have hne := B1.ne hu1
  have hl1 := B1.2.2.2.2.2.1
  have hc1 := B1.2.2.2.2.2.2.1
  refine o_aload_n (pc := 17) dJ5_append_c97b9_17 2 rfl ?_
  refine o_callU (pc := 18) (q := (RJ4, TJ4, 4)) _ dJ5_append_c97b9_18 (cb_lat B1) luJ5_83 rfl rfl rfl B1.1 ⟨⟨by simp only [rmL, rmD]; omega, by simp only [rmL, rmD]; omega⟩, by simp only [rmL, rmD]; omega, by simp only [rmL, rmD]; omega⟩ (Nat.le_of_ble_eq_true rfl) rfl (fun v h1 hq => ?_)
  obtain ⟨rfl, e2⟩ := hq
  obtain rfl := e2.symm
  refine o_if_eq (pc := 21) 37 dJ5_append_c97b9_21 (by decide) (by unfold inI; omega) (fun c_21 => (by exfalso; omega)) (fun c_21 => ?_)
  refine o_iload_n (pc := 24) dJ5_append_c97b9_24 3 rfl ?_
  refine o_iload_n (pc := 25) dJ5_append_c97b9_25 0 rfl ?_
  refine o_aload_n (pc := 26) dJ5_append_c97b9_26 2 rfl ?_
  refine o_gR (pc := 27) (j := 0) ((ak 1 c1)) (v1) dJ5_append_c97b9_27 flJ5_15 rfl rfl B1.1 B1.2.2.1 ?_
  refine o_callS (pc := 30) _ dJ5_append_c97b9_30 (cb_getC B1.2.1 hc1 h0 (by omega) hn1) lkJ5_248 rfl ⟨⟨by simp only [rmL, rmD]; omega, by simp only [rmL, rmD]; omega⟩, by simp only [rmL, rmD]; omega, by simp only [rmL, rmD]; omega⟩ (Nat.le_of_ble_eq_true rfl) rfl (fun v h2 hq => ?_)
  obtain ⟨⟨z, rfl⟩, g1, g2, g3, g4, g5, g6⟩ := hq
  have F2 := g6 (fun i => i = b ∨ i = val) h (F1.w (fun i z => .inl (.inl z))) (by rcases hv with z | z; exact .inl (.inr z.1); exact .inr z)
  have m2 : (58, b) ∈ h2.1 := by rw [g1]; exact B1.1
  refine o_pop (pc := 33) dJ5_append_c97b9_33 rfl ?_
  refine o_goto (pc := 34) 48 dJ5_append_c97b9_34 (by decide) ?_
  refine o_aload_n (pc := 48) dJ5_append_c97b9_48 2 rfl ?_
  refine o_iload_n (pc := 49) dJ5_append_c97b9_49 0 rfl ?_
  refine o_pI (pc := 50) (j := 3) dJ5_append_c97b9_50 fwJ5_79 rfl rfl m2 ?_
  refine o_aload_n (pc := 53) dJ5_append_c97b9_53 2 rfl ?_
  refine o_aret (pc := 54) dJ5_append_c97b9_54 rfl (.inl ⟨_, rfl⟩) (.inr ⟨_, rfl⟩) (by first | omega | (simp only [rmL, rmD]; omega)) (by first | omega | (simp only [rmL, rmD]; omega)) ?_
  refine ⟨rfl, v1, c1, B1.more (by omega) (by exact m2) (by show (ak 1 c1, v1) ∈ h2.1; rw [g1]; exact B1.2.1) (by show h2.2.2.1 58 b 0 = _; rw [g2]; exact B1.2.2.1) ?_ ?_ (fun j j0 j1 g => ?_) ?_ (fun a ha => by have := dg_b h0 hn1 a ha; omega), Fr_hset F2 (by decide) (.inl (.inl rfl)), hv.imp And.left id⟩
  · rw [hset_off (by omega), g3 58 b (fun z => hne z.2.symm)]
    exact B1.2.2.2.1
  · exact hset_eq rfl
  · rw [hset_n (fun z => hne z.2), g4 j (by omega)]
  · rw [hset_n (fun z => hne z.2)]
    rw [show (L.length : Int) + ((dg n).length : Int) - ((dg n).length : Int) = (L.length : Int) by omega] at g5
    exact g5
theorem cb_addI {G : GG} {h : Hp} {b val cap : Nat} {L : List Int} (hB : BB h b val cap L) (he : ∃ n, h.2.2.2 = some n) (hL : L.length ≤ 580) {n : Int} (h0 : 0 ≤ n) (hn1 : n < 1000) : Cy G MJ4_append_bf812 (rmL 6 1 1300) [rf G 58 b, .int (iI n)] h (fun v h1 => v = some (rf G 58 b) ∧ ∃ val1 cap1, BB h1 b val1 cap1 (L ++ dg n) ∧ Fr (fun i => i = b ∨ i = val) h h1 ∧ (val1 = val ∨ fre h val1)) := by
  refine o_entry (by decide +kernel) mwJ4_append_bf812 rfl (Nat.le_of_ble_eq_true rfl) ?_
  show YY G MJ4_append_bf812 (rmL 6 1 1300) 0 [(0, rf G 58 b), (1, .int (iI n))] [] h 0 0 _
  refine o_aload_n (pc := 0) dJ4_append_bf812_0 0 rfl ?_
  refine o_iload_n (pc := 1) dJ4_append_bf812_1 1 rfl ?_
  refine o_callSu (pc := 2) _ dJ4_append_bf812_2 (cb_appI hB he hL h0 hn1) suJ4_53 rfl rfl rfl hB.1 ⟨⟨by simp only [rmL, rmD]; omega, by simp only [rmL, rmD]; omega⟩, by simp only [rmL, rmD]; omega, by simp only [rmL, rmD]; omega⟩ (Nat.le_of_ble_eq_true rfl) rfl (fun v h1 hq => ?_)
  obtain ⟨rfl, v1, c1, B1, F1, hv⟩ := hq
  refine o_pop (pc := 5) dJ4_append_bf812_5 rfl ?_
  refine o_aload_n (pc := 6) dJ4_append_bf812_6 0 rfl ?_
  refine o_aret (pc := 7) dJ4_append_bf812_7 rfl (.inl ⟨_, rfl⟩) (.inr ⟨_, rfl⟩) (by first | omega | (simp only [rmL, rmD]; omega)) (by first | omega | (simp only [rmL, rmD]; omega)) ?_
  exact ⟨rfl, v1, c1, B1, F1, hv⟩
