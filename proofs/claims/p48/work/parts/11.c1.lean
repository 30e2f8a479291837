theorem h13 {w : Nat} (h : w < 5) : w < 13 := by omega
/-- what the class's methods answer and write: p a plan's number, s a state's -/
def roomC (m : Mem) (p s : Nat) (q : Int) : Int := max (m 23 p q - m 4 s q / m 22 p 0) ((m 23 p q + 1) / 2)
def quartC (m : Mem) (p s : Nat) (q : Int) : Int := min 3 (4 * m 3 s q / roomC m p s q)
def factC (m : Mem) (p : Nat) (q t : Int) : Int := if m 24 p q = -1 then 1 else m 25 p (m 24 p q * 4 + t)
def loseC (m : Mem) (p s : Nat) (q : Int) : Mem := if 0 < m 3 s q - roomC m p s q then up3 (up3 m 3 s q (m 3 s q - (m 3 s q - roomC m p s q))) 0 s 3 (m 0 s 3 + (m 3 s q - roomC m p s q)) else m
def getC (m : Mem) (p s : Nat) (q x : Int) : Mem := loseC (up3 m 3 s q (m 3 s q + x)) p s q
def wearC (m : Mem) (p s : Nat) (q x : Int) : Int := x * factC m p q (quartC m p s q)
def giveC (m : Mem) (p s : Nat) (q x : Int) : Mem := loseC (up3 (up3 m 3 s q (m 3 s q - x)) 4 s q (min 1000000000 (m 4 s q + wearC m p s q x))) p s q
def intC (m : Mem) (p : Nat) (x : Int) : Int := (x + m 22 p 1 - 1) / m 22 p 1
def owedC (m : Mem) (p s : Nat) (l : Int) : Int := if m 20 s l ≤ 2 then max 0 (m 17 s l + intC m p (m 18 s l) - m 19 s l) else 0
def sm (f : Int → Int) : Nat → Int
  | 0 => 0
  | n + 1 => sm f n + f (n : Int)
/-- facts of one pack -/
def PF (m : Mem) (p s : Nat) (q : Int) : Prop := (0 ≤ q ∧ q < 8) ∧ (2 ≤ m 23 p q ∧ m 23 p q ≤ 100000) ∧ (0 ≤ m 4 s q ∧ m 4 s q ≤ 1000000000) ∧ (1 ≤ m 22 p 0 ∧ m 22 p 0 ≤ 10000) ∧ (0 ≤ m 3 s q ∧ m 3 s q ≤ 1000000)
def QF (m : Mem) (p : Nat) (q : Int) : Prop := (m 24 p q = -1 ∨ 0 ≤ m 24 p q ∧ m 24 p q < 4) ∧ ∀ t, 0 ≤ t → t < 4 → 0 ≤ factC m p q t ∧ factC m p q t ≤ 1000
theorem roomC_b {m : Mem} {p s : Nat} {q : Int} (h : PF m p s q) : 1 ≤ roomC m p s q ∧ roomC m p s q ≤ m 23 p q := by
  obtain ⟨h1, h2, h3, h4, h5⟩ := h
  have hd0 : 0 ≤ m 4 s q / m 22 p 0 := Int.ediv_nonneg (by omega) (by omega)
  unfold roomC
  omega
theorem quartC_b {m : Mem} {p s : Nat} {q : Int} (h : PF m p s q) : 0 ≤ quartC m p s q ∧ quartC m p s q < 4 := by
  have hb := roomC_b h
  obtain ⟨h1, h2, h3, h4, h5⟩ := h
  have hd0 : 0 ≤ 4 * m 3 s q / roomC m p s q := Int.ediv_nonneg (by omega) (by omega)
  unfold quartC
  omega
theorem ct_roomOf {G : GG} {m : Mem} {w : Nat} (hw : w < 5) (q : Int) (h : PF m (pl w) w q) : Ct G MX6_roomOf (rmD 0) [rf G 33 w, .int (iI q)] (hp (m)) (.inl (some (.int (iI (roomC m (pl w) w q))))) (hp (m)) := by
  refine x_entry (by decide +kernel) mwX6_roomOf rfl (Nat.le_of_ble_eq_true rfl) ?_
  show X G MX6_roomOf (rmD 0) 0 [(0, rf G 33 w), (1, .int (iI q))] [] (hp (m)) 0 0 (.inl (some (.int (iI (roomC m (pl w) w q))))) (hp (m))
  obtain ⟨hq, hc, hp0, hf, -⟩ := h
  have hd0 : 0 ≤ m 4 w q / m 22 (pl w) 0 := Int.ediv_nonneg (by omega) (by omega)
  have hd1 : m 4 w q / m 22 (pl w) 0 ≤ 1000000000 := Int.le_trans (Int.ediv_le_self _ (by omega)) (by omega)
  refine x_aload_n (pc := 0) dX6_roomOf_0 0 rfl ?_
  refine y_getR (pc := 1) dX6_roomOf_1 flX6_18 rfl rfl rfl hw ?_
  refine y_getR (pc := 4) dX6_roomOf_4 flX6_31 rfl rfl rfl (pl_lt hw) ?_
  refine x_iload_n (pc := 7) dX6_roomOf_7 1 rfl ?_
  refine y_iald (pc := 8) dX6_roomOf_8 rfl (pl_lt hw) (by omega) ?_
  refine x_istore_n (pc := 9) (lv' := [(2, _), (0, _), (1, _)]) dX6_roomOf_9 rfl (by decide) rfl ?_
  refine x_iload_n (pc := 10) dX6_roomOf_10 0 rfl ?_
  refine x_iconst (pc := 11) dX6_roomOf_11 ?_
  refine x_iadd (pc := 12) dX6_roomOf_12 ?_
  refine x_iconst (pc := 13) dX6_roomOf_13 ?_
  refine x_idiv (pc := 14) dX6_roomOf_14 (by omega) (by omega) ?_
  refine x_istore_n (pc := 15) (lv' := [(3, _), (2, _), (0, _), (1, _)]) dX6_roomOf_15 rfl (by decide) rfl ?_
  refine x_aload_n (pc := 16) dX6_roomOf_16 2 rfl ?_
  refine y_getR (pc := 17) dX6_roomOf_17 flX6_18 rfl rfl rfl hw ?_
  refine y_getI (pc := 20) 0 dX6_roomOf_20 flX6_35 rfl rfl rfl (pl_lt hw) ?_
  refine x_iconst (pc := 23) dX6_roomOf_23 ?_
  refine x_icmp_ge (pc := 24) 31 dX6_roomOf_24 (by decide) (by unfold inI; omega) (by unfold inI; omega) (fun c_24 => ?_) (fun c_24 => (by exfalso; omega))
  refine x_iload_n (pc := 31) dX6_roomOf_31 1 rfl ?_
  refine x_aload_n (pc := 32) dX6_roomOf_32 2 rfl ?_
  refine y_getR (pc := 33) dX6_roomOf_33 flX6_12 rfl rfl rfl hw ?_
  refine y_getR (pc := 36) dX6_roomOf_36 flX6_39 rfl rfl rfl (h13 hw) ?_
  refine x_iload_n (pc := 39) dX6_roomOf_39 3 rfl ?_
  refine y_iald (pc := 40) dX6_roomOf_40 rfl (h13 hw) (by omega) ?_
  refine x_aload_n (pc := 41) dX6_roomOf_41 2 rfl ?_
  refine y_getR (pc := 42) dX6_roomOf_42 flX6_18 rfl rfl rfl hw ?_
  refine y_getI (pc := 45) 0 dX6_roomOf_45 flX6_35 rfl rfl rfl (pl_lt hw) ?_
  refine x_idiv (pc := 48) dX6_roomOf_48 (by omega) (by omega) ?_
  refine x_isub (pc := 49) dX6_roomOf_49 ?_
  refine x_istore (pc := 50) (lv' := [(4, _), (3, _), (2, _), (0, _), (1, _)]) dX6_roomOf_50 (by decide) rfl ?_
  refine x_iload (pc := 52) dX6_roomOf_52 0 rfl ?_
  refine x_iload_n (pc := 54) dX6_roomOf_54 1 rfl ?_
  refine x_icmp_le (pc := 55) 63 dX6_roomOf_55 (by decide) (by unfold inI; omega) (by unfold inI; omega) (fun c_55 => ?_) (fun c_55 => ?_)
  · refine x_iload_n (pc := 63) dX6_roomOf_63 1 rfl ?_
    exact y_iret (pc := 64) dX6_roomOf_64 rfl (by unfold roomC; omega) rfl
  · refine x_iload (pc := 58) dX6_roomOf_58 0 rfl ?_
    refine x_goto (pc := 60) 64 dX6_roomOf_60 (by decide) ?_
    exact y_iret (pc := 64) dX6_roomOf_64 rfl (by unfold roomC; omega) rfl
theorem ct_quarterOf {G : GG} {m : Mem} {w : Nat} (hw : w < 5) (q : Int) (h : PF m (pl w) w q) : Ct G MX6_quarterOf (rmD 1) [rf G 33 w, .int (iI q)] (hp (m)) (.inl (some (.int (iI (quartC m (pl w) w q))))) (hp (m)) := by
  refine x_entry (by decide +kernel) mwX6_quarterOf rfl (Nat.le_of_ble_eq_true rfl) ?_
  show X G MX6_quarterOf (rmD 1) 0 [(0, rf G 33 w), (1, .int (iI q))] [] (hp (m)) 0 0 (.inl (some (.int (iI (quartC m (pl w) w q))))) (hp (m))
  have hb := roomC_b h
  have hq := quartC_b h
  have h0 := h
  obtain ⟨hq1, hc, hp0, hf, hch⟩ := h
  have hd0 : 0 ≤ 4 * m 3 w q / roomC m (pl w) w q := Int.ediv_nonneg (by omega) (by omega)
  have hd1 : 4 * m 3 w q / roomC m (pl w) w q ≤ 4000000 := Int.le_trans (Int.ediv_le_self _ (by omega)) (by omega)
  replace h := h0
  refine x_aload_n (pc := 0) dX6_quarterOf_0 0 rfl ?_
  refine x_iload_n (pc := 1) dX6_quarterOf_1 1 rfl ?_
  refine x_callV (pc := 2) _ dX6_quarterOf_2 (ct_roomOf hw q h) lkX6_42 rfl rfl rfl rfl (mem_dom0 (by decide) hw) (by decide) (Nat.le_of_ble_eq_true rfl) rfl ?_
  refine x_istore_n (pc := 5) (lv' := [(2, _), (0, _), (1, _)]) dX6_quarterOf_5 rfl (by decide) rfl ?_
  refine x_iload_n (pc := 6) dX6_quarterOf_6 0 rfl ?_
  refine x_iconst (pc := 7) dX6_quarterOf_7 ?_
  refine x_icmp_ge (pc := 8) 15 dX6_quarterOf_8 (by decide) (by unfold inI; omega) (by unfold inI; omega) (fun c_8 => ?_) (fun c_8 => (by exfalso; omega))
  refine x_iconst (pc := 15) dX6_quarterOf_15 ?_
  refine x_aload_n (pc := 16) dX6_quarterOf_16 1 rfl ?_
  refine y_getR (pc := 17) dX6_quarterOf_17 flX6_12 rfl rfl rfl hw ?_
  refine y_getR (pc := 20) dX6_quarterOf_20 flX6_46 rfl rfl rfl (h13 hw) ?_
  refine x_iload_n (pc := 23) dX6_quarterOf_23 2 rfl ?_
  refine y_iald (pc := 24) dX6_quarterOf_24 rfl (h13 hw) (by omega) ?_
  refine x_imul (pc := 25) dX6_quarterOf_25 ?_
  refine x_iload_n (pc := 26) dX6_quarterOf_26 0 rfl ?_
  refine x_idiv (pc := 27) dX6_quarterOf_27 (by omega) (by omega) ?_
  refine x_istore_n (pc := 28) (lv' := [(3, _), (2, _), (0, _), (1, _)]) dX6_quarterOf_28 rfl (by decide) rfl ?_
  refine x_iload_n (pc := 29) dX6_quarterOf_29 0 rfl ?_
  refine x_iconst (pc := 30) dX6_quarterOf_30 ?_
  refine x_icmp_ge (pc := 31) 38 dX6_quarterOf_31 (by decide) (by unfold inI; omega) (by unfold inI; omega) (fun c_31 => ?_) (fun c_31 => ?_)
  · refine x_iconst (pc := 38) dX6_quarterOf_38 ?_
    exact y_iret (pc := 39) dX6_quarterOf_39 rfl (by unfold quartC; omega) rfl
  · refine x_iload_n (pc := 34) dX6_quarterOf_34 0 rfl ?_
    refine x_goto (pc := 35) 39 dX6_quarterOf_35 (by decide) ?_
    exact y_iret (pc := 39) dX6_quarterOf_39 rfl (by unfold quartC; omega) rfl
theorem ct_factor {G : GG} {m : Mem} {p : Nat} (hp4 : p < 4) (q t : Int) (hq : 0 ≤ q ∧ q < 8) (ht : 0 ≤ t ∧ t < 4) (h : QF m p q) : Ct G MX2_factor (rmD 0) [rf G 22 p, .int (iI q), .int (iI t)] (hp (m)) (.inl (some (.int (iI (factC m p q t))))) (hp (m)) := by
  refine x_entry (by decide +kernel) mwX2_factor rfl (Nat.le_of_ble_eq_true rfl) ?_
  show X G MX2_factor (rmD 0) 0 [(0, rf G 22 p), (1, .int (iI q)), (2, .int (iI t))] [] (hp (m)) 0 0 (.inl (some (.int (iI (factC m p q t))))) (hp (m))
  have h1 := h.1
  refine x_aload_n (pc := 0) dX2_factor_0 0 rfl ?_
  refine y_getR (pc := 1) dX2_factor_1 flX2_22 rfl rfl rfl hp4 ?_
  refine x_iload_n (pc := 4) dX2_factor_4 1 rfl ?_
  refine y_iald (pc := 5) dX2_factor_5 rfl hp4 (by omega) ?_
  refine x_iconst (pc := 6) dX2_factor_6 ?_
  refine x_icmp_ne (pc := 7) 14 dX2_factor_7 (by decide) (by unfold inI; omega) (by unfold inI; omega) (fun c_7 => ?_) (fun c_7 => ?_)
  · refine x_aload_n (pc := 14) dX2_factor_14 0 rfl ?_
    refine y_getR (pc := 15) dX2_factor_15 flX2_25 rfl rfl rfl hp4 ?_
    refine x_aload_n (pc := 18) dX2_factor_18 0 rfl ?_
    refine y_getR (pc := 19) dX2_factor_19 flX2_22 rfl rfl rfl hp4 ?_
    refine x_iload_n (pc := 22) dX2_factor_22 1 rfl ?_
    refine y_iald (pc := 23) dX2_factor_23 rfl hp4 (by omega) ?_
    refine x_iconst (pc := 24) dX2_factor_24 ?_
    refine x_imul (pc := 25) dX2_factor_25 ?_
    refine x_iload_n (pc := 26) dX2_factor_26 2 rfl ?_
    refine x_iadd (pc := 27) dX2_factor_27 ?_
    refine y_iald (pc := 28) dX2_factor_28 rfl hp4 (by omega) ?_
    exact y_iret (pc := 29) dX2_factor_29 rfl (by unfold factC; first | rw [if_pos c_7] | rw [if_neg c_7]) rfl
  · refine x_iconst (pc := 10) dX2_factor_10 ?_
    refine x_goto (pc := 11) 29 dX2_factor_11 (by decide) ?_
    exact y_iret (pc := 29) dX2_factor_29 rfl (by unfold factC; first | rw [if_pos c_7] | rw [if_neg c_7]) rfl
theorem ct_gain {G : GG} {m : Mem} {p : Nat} (hp4 : p < 4) (q t : Int) (hq : 0 ≤ q ∧ q < 8) (ht : 0 ≤ t ∧ t < 24) : Ct G MX2_gain (rmD 0) [rf G 22 p, .int (iI q), .int (iI t)] (hp (m)) (.inl (some (.int (iI (m 26 p (q * 24 + t)))))) (hp (m)) := by
  refine x_entry (by decide +kernel) mwX2_gain rfl (Nat.le_of_ble_eq_true rfl) ?_
  show X G MX2_gain (rmD 0) 0 [(0, rf G 22 p), (1, .int (iI q)), (2, .int (iI t))] [] (hp (m)) 0 0 (.inl (some (.int (iI (m 26 p (q * 24 + t)))))) (hp (m))
  refine x_aload_n (pc := 0) dX2_gain_0 0 rfl ?_
  refine y_getR (pc := 1) dX2_gain_1 flX2_28 rfl rfl rfl hp4 ?_
  refine x_iload_n (pc := 4) dX2_gain_4 1 rfl ?_
  refine x_bipush (pc := 5) (z := 24) dX2_gain_5 (by decide) ?_
  refine x_imul (pc := 7) dX2_gain_7 ?_
  refine x_iload_n (pc := 8) dX2_gain_8 2 rfl ?_
  refine x_iadd (pc := 9) dX2_gain_9 ?_
  refine y_iald (pc := 10) dX2_gain_10 rfl hp4 (by omega) ?_
  exact y_iret (pc := 11) dX2_gain_11 rfl rfl rfl
theorem ct_cableBetween {G : GG} {m : Mem} {p : Nat} (hp4 : p < 4) (a b : Int) (ha : 0 ≤ a ∧ a < 8) (hb : 0 ≤ b ∧ b < 8) : Ct G MX2_cableBetween (rmD 0) [rf G 22 p, .int (iI a), .int (iI b)] (hp (m)) (.inl (some (.int (iI (m 27 p (a * 8 + b)))))) (hp (m)) := by
  refine x_entry (by decide +kernel) mwX2_cableBetween rfl (Nat.le_of_ble_eq_true rfl) ?_
  show X G MX2_cableBetween (rmD 0) 0 [(0, rf G 22 p), (1, .int (iI a)), (2, .int (iI b))] [] (hp (m)) 0 0 (.inl (some (.int (iI (m 27 p (a * 8 + b)))))) (hp (m))
  refine x_aload_n (pc := 0) dX2_cableBetween_0 0 rfl ?_
  refine y_getR (pc := 1) dX2_cableBetween_1 flX2_31 rfl rfl rfl hp4 ?_
  refine x_iload_n (pc := 4) dX2_cableBetween_4 1 rfl ?_
  refine x_bipush (pc := 5) (z := 8) dX2_cableBetween_5 (by decide) ?_
  refine x_imul (pc := 7) dX2_cableBetween_7 ?_
  refine x_iload_n (pc := 8) dX2_cableBetween_8 2 rfl ?_
  refine x_iadd (pc := 9) dX2_cableBetween_9 ?_
  refine y_iald (pc := 10) dX2_cableBetween_10 rfl hp4 (by omega) ?_
  exact y_iret (pc := 11) dX2_cableBetween_11 rfl rfl rfl
theorem ct_cableOf {G : GG} {m : Mem} {p : Nat} (hp4 : p < 4) (c : Int) (hc : 0 ≤ c ∧ c < 8) (ha : 0 ≤ m 28 p c ∧ m 28 p c < 8) (hb : 0 ≤ m 29 p c ∧ m 29 p c < 8) : Ct G MX2_cableOf (rmD 1) [rf G 22 p, .int (iI c)] (hp (m)) (.inl (some (.int (iI (m 27 p (m 28 p c * 8 + m 29 p c)))))) (hp (m)) := by
  refine x_entry (by decide +kernel) mwX2_cableOf rfl (Nat.le_of_ble_eq_true rfl) ?_
  show X G MX2_cableOf (rmD 1) 0 [(0, rf G 22 p), (1, .int (iI c))] [] (hp (m)) 0 0 (.inl (some (.int (iI (m 27 p (m 28 p c * 8 + m 29 p c)))))) (hp (m))
  refine x_aload_n (pc := 0) dX2_cableOf_0 0 rfl ?_
  refine x_aload_n (pc := 1) dX2_cableOf_1 0 rfl ?_
  refine y_getR (pc := 2) dX2_cableOf_2 flX2_34 rfl rfl rfl hp4 ?_
  refine x_iload_n (pc := 5) dX2_cableOf_5 1 rfl ?_
  refine y_iald (pc := 6) dX2_cableOf_6 rfl hp4 (by omega) ?_
  refine x_aload_n (pc := 7) dX2_cableOf_7 0 rfl ?_
  refine y_getR (pc := 8) dX2_cableOf_8 flX2_37 rfl rfl rfl hp4 ?_
  refine x_iload_n (pc := 11) dX2_cableOf_11 1 rfl ?_
  refine y_iald (pc := 12) dX2_cableOf_12 rfl hp4 (by omega) ?_
  refine x_callV (pc := 13) _ dX2_cableOf_13 (ct_cableBetween hp4 _ _ ha hb) lkX2_74 rfl rfl rfl rfl (mem_dom0 (by decide) hp4) (by decide) (Nat.le_of_ble_eq_true rfl) rfl ?_
  exact y_iret (pc := 16) dX2_cableOf_16 rfl rfl rfl
theorem ct_aboveReserve {G : GG} {m : Mem} {s : Nat} (hs : s < 13) (q : Int) (hq : 0 ≤ q ∧ q < 8) : Ct G MX4_aboveReserve (rmD 0) [rf G 0 s, .int (iI q)] (hp (m)) (.inl (some (.int (iI (m 3 s q - m 5 s q))))) (hp (m)) := by
  refine x_entry (by decide +kernel) mwX4_aboveReserve rfl (Nat.le_of_ble_eq_true rfl) ?_
  show X G MX4_aboveReserve (rmD 0) 0 [(0, rf G 0 s), (1, .int (iI q))] [] (hp (m)) 0 0 (.inl (some (.int (iI (m 3 s q - m 5 s q))))) (hp (m))
  refine x_aload_n (pc := 0) dX4_aboveReserve_0 0 rfl ?_
  refine y_getR (pc := 1) dX4_aboveReserve_1 flX4_9 rfl rfl rfl hs ?_
  refine x_iload_n (pc := 4) dX4_aboveReserve_4 1 rfl ?_
  refine y_iald (pc := 5) dX4_aboveReserve_5 rfl hs (by omega) ?_
  refine x_aload_n (pc := 6) dX4_aboveReserve_6 0 rfl ?_
  refine y_getR (pc := 7) dX4_aboveReserve_7 flX4_18 rfl rfl rfl hs ?_
  refine x_iload_n (pc := 10) dX4_aboveReserve_10 1 rfl ?_
  refine y_iald (pc := 11) dX4_aboveReserve_11 rfl hs (by omega) ?_
  refine x_isub (pc := 12) dX4_aboveReserve_12 ?_
  exact y_iret (pc := 13) dX4_aboveReserve_13 rfl rfl rfl
theorem ct_stillSends {G : GG} {m : Mem} {s : Nat} (hs : s < 13) (c : Int) (hc : 0 ≤ c ∧ c < 12) : Ct G MX4_stillSends (rmD 0) [rf G 0 s, .int (iI c)] (hp (m)) (.inl (some (.int (iI (m 7 s c - m 8 s c))))) (hp (m)) := by
  refine x_entry (by decide +kernel) mwX4_stillSends rfl (Nat.le_of_ble_eq_true rfl) ?_
  show X G MX4_stillSends (rmD 0) 0 [(0, rf G 0 s), (1, .int (iI c))] [] (hp (m)) 0 0 (.inl (some (.int (iI (m 7 s c - m 8 s c))))) (hp (m))
  refine x_aload_n (pc := 0) dX4_stillSends_0 0 rfl ?_
  refine y_getR (pc := 1) dX4_stillSends_1 flX4_24 rfl rfl rfl hs ?_
  refine x_iload_n (pc := 4) dX4_stillSends_4 1 rfl ?_
  refine y_iald (pc := 5) dX4_stillSends_5 rfl hs (by omega) ?_
  refine x_aload_n (pc := 6) dX4_stillSends_6 0 rfl ?_
  refine y_getR (pc := 7) dX4_stillSends_7 flX4_27 rfl rfl rfl hs ?_
  refine x_iload_n (pc := 10) dX4_stillSends_10 1 rfl ?_
  refine y_iald (pc := 11) dX4_stillSends_11 rfl hs (by omega) ?_
  refine x_isub (pc := 12) dX4_stillSends_12 ?_
  exact y_iret (pc := 13) dX4_stillSends_13 rfl rfl rfl
def carryC (m : Mem) (s : Nat) (c x : Int) : Mem := up3 (up3 m 8 s c (m 8 s c + x)) 9 s c (m 9 s c + x * m 6 s c / 1000)
theorem ct_carry {G : GG} {m : Mem} {s : Nat} (hs : s < 13) (c x : Int) (hc : 0 ≤ c ∧ c < 12) (hx : 0 ≤ x * m 6 s c ∧ x * m 6 s c < 2147483648) : Ct G MX4_carry (rmD 0) [rf G 0 s, .int (iI c), .int (iI x)] (hp (m)) (.inl (some (.int (iI (x - x * m 6 s c / 1000))))) (hp (carryC m s c x)) := by
  refine x_entry (by decide +kernel) mwX4_carry rfl (Nat.le_of_ble_eq_true rfl) ?_
  show X G MX4_carry (rmD 0) 0 [(0, rf G 0 s), (1, .int (iI c)), (2, .int (iI x))] [] (hp (m)) 0 0 (.inl (some (.int (iI (x - x * m 6 s c / 1000))))) (hp (carryC m s c x))
  refine x_iload_n (pc := 0) dX4_carry_0 2 rfl ?_
  refine x_aload_n (pc := 1) dX4_carry_1 0 rfl ?_
  refine y_getR (pc := 2) dX4_carry_2 flX4_21 rfl rfl rfl hs ?_
  refine x_iload_n (pc := 5) dX4_carry_5 1 rfl ?_
  refine y_iald (pc := 6) dX4_carry_6 rfl hs (by omega) ?_
  refine x_imul (pc := 7) dX4_carry_7 ?_
  refine x_sipush (pc := 8) (z := 1000) dX4_carry_8 (by decide) ?_
  refine x_idiv (pc := 11) dX4_carry_11 (by omega) (by omega) ?_
  refine x_istore_n (pc := 12) (lv' := [(3, _), (0, _), (1, _), (2, _)]) dX4_carry_12 rfl (by decide) rfl ?_
  refine x_aload_n (pc := 13) dX4_carry_13 1 rfl ?_
  refine y_getR (pc := 14) dX4_carry_14 flX4_27 rfl rfl rfl hs ?_
  refine x_iload_n (pc := 17) dX4_carry_17 2 rfl ?_
  refine x_dup2 (pc := 18) dX4_carry_18 rfl rfl ?_
  refine y_iald (pc := 19) dX4_carry_19 rfl hs (by omega) ?_
  refine x_iload_n (pc := 20) dX4_carry_20 3 rfl ?_
  refine x_iadd (pc := 21) dX4_carry_21 ?_
  refine y_iast (pc := 22) dX4_carry_22 rfl hs (by omega) ?_
  refine x_aload_n (pc := 23) dX4_carry_23 1 rfl ?_
  refine y_getR (pc := 24) dX4_carry_24 flX4_30 rfl rfl rfl hs ?_
  refine x_iload_n (pc := 27) dX4_carry_27 2 rfl ?_
  refine x_dup2 (pc := 28) dX4_carry_28 rfl rfl ?_
  refine y_iald (pc := 29) dX4_carry_29 rfl hs (by omega) ?_
  refine x_iload_n (pc := 30) dX4_carry_30 0 rfl ?_
  refine x_iadd (pc := 31) dX4_carry_31 ?_
  refine y_iast (pc := 32) dX4_carry_32 rfl hs (by omega) ?_
  refine x_iload_n (pc := 33) dX4_carry_33 3 rfl ?_
  refine x_iload_n (pc := 34) dX4_carry_34 0 rfl ?_
  refine x_isub (pc := 35) dX4_carry_35 ?_
  exact y_iret (pc := 36) dX4_carry_36 rfl rfl rfl
theorem ct_isOpen {G : GG} {m : Mem} {s : Nat} (hs : s < 13) (l : Int) (hl : 0 ≤ l ∧ l < 16) (hi : inI (m 20 s l)) : Ct G MX1_isOpen (rmD 0) [rf G 2 s, .int (iI l)] (hp (m)) (.inl (some (.int (iI (if m 20 s l ≤ 2 then 1 else 0))))) (hp (m)) := by
  refine x_entry (by decide +kernel) mwX1_isOpen rfl (Nat.le_of_ble_eq_true rfl) ?_
  show X G MX1_isOpen (rmD 0) 0 [(0, rf G 2 s), (1, .int (iI l))] [] (hp (m)) 0 0 (.inl (some (.int (iI (if m 20 s l ≤ 2 then 1 else 0))))) (hp (m))
  refine x_aload_n (pc := 0) dX1_isOpen_0 0 rfl ?_
  refine y_getR (pc := 1) dX1_isOpen_1 flX1_27 rfl rfl rfl hs ?_
  refine x_iload_n (pc := 4) dX1_isOpen_4 1 rfl ?_
  refine y_iald (pc := 5) dX1_isOpen_5 rfl hs (by omega) ?_
  refine x_iconst (pc := 6) dX1_isOpen_6 ?_
  refine x_icmp_gt (pc := 7) 14 dX1_isOpen_7 (by decide) hi (by unfold inI; omega) (fun c_7 => ?_) (fun c_7 => ?_)
  · refine x_iconst (pc := 14) dX1_isOpen_14 ?_
    exact y_z0ret (pc := 15) dX1_isOpen_15 rfl (by omega) rfl
  · refine x_iconst (pc := 10) dX1_isOpen_10 ?_
    refine x_goto (pc := 11) 15 dX1_isOpen_11 (by decide) ?_
    exact y_z1ret (pc := 15) dX1_isOpen_15 rfl (by omega) rfl
theorem ct_interestOf {G : GG} {m : Mem} {w : Nat} (hw : w < 5) (x : Int) (hx : 0 ≤ x ∧ x ≤ 100000000) (hf : 1 ≤ m 22 (pl w) 1 ∧ m 22 (pl w) 1 ≤ 10000) : Ct G MX6_interestOf (rmD 0) [rf G 33 w, .int (iI x)] (hp (m)) (.inl (some (.int (iI (intC m (pl w) x))))) (hp (m)) := by
  refine x_entry (by decide +kernel) mwX6_interestOf rfl (Nat.le_of_ble_eq_true rfl) ?_
  show X G MX6_interestOf (rmD 0) 0 [(0, rf G 33 w), (1, .int (iI x))] [] (hp (m)) 0 0 (.inl (some (.int (iI (intC m (pl w) x))))) (hp (m))
  refine x_aload_n (pc := 0) dX6_interestOf_0 0 rfl ?_
  refine y_getR (pc := 1) dX6_interestOf_1 flX6_18 rfl rfl rfl hw ?_
  refine y_getI (pc := 4) 1 dX6_interestOf_4 flX6_70 rfl rfl rfl (pl_lt hw) ?_
  refine x_istore_n (pc := 7) (lv' := [(2, _), (0, _), (1, _)]) dX6_interestOf_7 rfl (by decide) rfl ?_
  refine x_iload_n (pc := 8) dX6_interestOf_8 0 rfl ?_
  refine x_iconst (pc := 9) dX6_interestOf_9 ?_
  refine x_icmp_ge (pc := 10) 17 dX6_interestOf_10 (by decide) (by unfold inI; omega) (by unfold inI; omega) (fun c_10 => ?_) (fun c_10 => (by exfalso; omega))
  refine x_iload_n (pc := 17) dX6_interestOf_17 2 rfl ?_
  refine x_iload_n (pc := 18) dX6_interestOf_18 0 rfl ?_
  refine x_iadd (pc := 19) dX6_interestOf_19 ?_
  refine x_iconst (pc := 20) dX6_interestOf_20 ?_
  refine x_isub (pc := 21) dX6_interestOf_21 ?_
  refine x_iload_n (pc := 22) dX6_interestOf_22 0 rfl ?_
  refine x_idiv (pc := 23) dX6_interestOf_23 (by omega) (by omega) ?_
  exact y_iret (pc := 24) dX6_interestOf_24 rfl rfl rfl
theorem ct_sentToReturn {G : GG} {m : Mem} (a ls : Int) (ha : 0 ≤ a ∧ a ≤ 200000000) (hl : 0 ≤ ls ∧ ls ≤ 900) : Ct G MX6_sentToReturn (rmD 0) [.int (iI a), .int (iI ls)] (hp (m)) (.inl (some (.long (lI ((a * 1000 + (1000 - ls) - 1) / (1000 - ls)))))) (hp (m)) := by
  refine x_entry (by decide +kernel) mwX6_sentToReturn rfl (Nat.le_of_ble_eq_true rfl) ?_
  show X G MX6_sentToReturn (rmD 0) 0 [(0, .int (iI a)), (1, .int (iI ls))] [] (hp (m)) 0 0 (.inl (some (.long (lI ((a * 1000 + (1000 - ls) - 1) / (1000 - ls)))))) (hp (m))
  refine x_sipush (pc := 0) (z := 1000) dX6_sentToReturn_0 (by decide) ?_
  refine x_iload_n (pc := 3) dX6_sentToReturn_3 1 rfl ?_
  refine x_isub (pc := 4) dX6_sentToReturn_4 ?_
  refine x_istore_n (pc := 5) (lv' := [(2, _), (0, _), (1, _)]) dX6_sentToReturn_5 rfl (by decide) rfl ?_
  refine x_iload_n (pc := 6) dX6_sentToReturn_6 0 rfl ?_
  refine x_iconst (pc := 7) dX6_sentToReturn_7 ?_
  refine x_icmp_ge (pc := 8) 15 dX6_sentToReturn_8 (by decide) (by unfold inI; omega) (by unfold inI; omega) (fun c_8 => ?_) (fun c_8 => (by exfalso; omega))
  refine x_iload_n (pc := 15) dX6_sentToReturn_15 1 rfl ?_
  refine x_i2l (pc := 16) dX6_sentToReturn_16 (by unfold inI; omega) ?_
  refine x_ldc2 (pc := 17) (z := 1000) dX6_sentToReturn_17 kcX6_219 (by decide) ?_
  refine x_lmul (pc := 20) dX6_sentToReturn_20 ?_
  refine x_iload_n (pc := 21) dX6_sentToReturn_21 0 rfl ?_
  refine x_i2l (pc := 22) dX6_sentToReturn_22 (by unfold inI; omega) ?_
  refine x_ladd (pc := 23) dX6_sentToReturn_23 ?_
  refine x_lconst (pc := 24) (z := 1) dX6_sentToReturn_24 (by decide) ?_
  refine x_lsub (pc := 25) dX6_sentToReturn_25 ?_
  refine x_iload_n (pc := 26) dX6_sentToReturn_26 0 rfl ?_
  refine x_i2l (pc := 27) dX6_sentToReturn_27 (by unfold inI; omega) ?_
  refine x_ldiv (pc := 28) dX6_sentToReturn_28 (by omega) (by omega) ?_
  exact y_lret (pc := 29) dX6_sentToReturn_29 rfl rfl rfl
theorem ct_loseAboveRoom {G : GG} {m : Mem} {w : Nat} (hw : w < 5) (q : Int) (h : PF m (pl w) w q) : Ct G MX6_loseAboveRoom (rmD 1) [rf G 33 w, .int (iI q)] (hp (m)) (.inl none) (hp (loseC m (pl w) w q)) := by
  refine x_entry (by decide +kernel) mwX6_loseAboveRoom rfl (Nat.le_of_ble_eq_true rfl) ?_
  show X G MX6_loseAboveRoom (rmD 1) 0 [(0, rf G 33 w), (1, .int (iI q))] [] (hp (m)) 0 0 (.inl none) (hp (loseC m (pl w) w q))
  have hb := roomC_b h
  have h0 := h
  obtain ⟨hq1, hc, hp0, hf, hch⟩ := h
  replace h := h0
  refine x_aload_n (pc := 0) dX6_loseAboveRoom_0 0 rfl ?_
  refine y_getR (pc := 1) dX6_loseAboveRoom_1 flX6_12 rfl rfl rfl hw ?_
  refine y_getR (pc := 4) dX6_loseAboveRoom_4 flX6_46 rfl rfl rfl (h13 hw) ?_
  refine x_iload_n (pc := 7) dX6_loseAboveRoom_7 1 rfl ?_
  refine y_iald (pc := 8) dX6_loseAboveRoom_8 rfl (h13 hw) (by omega) ?_
  refine x_aload_n (pc := 9) dX6_loseAboveRoom_9 0 rfl ?_
  refine x_iload_n (pc := 10) dX6_loseAboveRoom_10 1 rfl ?_
  refine x_callV (pc := 11) _ dX6_loseAboveRoom_11 (ct_roomOf hw q h) lkX6_42 rfl rfl rfl rfl (mem_dom0 (by decide) hw) (by decide) (Nat.le_of_ble_eq_true rfl) rfl ?_
  refine x_isub (pc := 14) dX6_loseAboveRoom_14 ?_
  refine x_istore_n (pc := 15) (lv' := [(2, _), (0, _), (1, _)]) dX6_loseAboveRoom_15 rfl (by decide) rfl ?_
  refine x_iload_n (pc := 16) dX6_loseAboveRoom_16 0 rfl ?_
  refine x_if_le (pc := 17) 47 dX6_loseAboveRoom_17 (by decide) (by unfold inI; omega) (fun c_17 => ?_) (fun c_17 => ?_)
  · exact y_vret (pc := 47) dX6_loseAboveRoom_47 rfl (by unfold loseC; first | rw [if_pos (by omega)]; rfl | rw [if_neg (by omega)])
  · refine x_aload_n (pc := 20) dX6_loseAboveRoom_20 1 rfl ?_
    refine y_getR (pc := 21) dX6_loseAboveRoom_21 flX6_12 rfl rfl rfl hw ?_
    refine y_getR (pc := 24) dX6_loseAboveRoom_24 flX6_46 rfl rfl rfl (h13 hw) ?_
    refine x_iload_n (pc := 27) dX6_loseAboveRoom_27 2 rfl ?_
    refine x_dup2 (pc := 28) dX6_loseAboveRoom_28 rfl rfl ?_
    refine y_iald (pc := 29) dX6_loseAboveRoom_29 rfl (h13 hw) (by omega) ?_
    refine x_iload_n (pc := 30) dX6_loseAboveRoom_30 0 rfl ?_
    refine x_isub (pc := 31) dX6_loseAboveRoom_31 ?_
    refine y_iast (pc := 32) dX6_loseAboveRoom_32 rfl (h13 hw) (by omega) ?_
    refine x_aload_n (pc := 33) dX6_loseAboveRoom_33 1 rfl ?_
    refine y_getR (pc := 34) dX6_loseAboveRoom_34 flX6_12 rfl rfl rfl hw ?_
    refine x_dup (pc := 37) dX6_loseAboveRoom_37 rfl ?_
    refine y_getL (pc := 38) 3 dX6_loseAboveRoom_38 flX6_49 rfl rfl rfl (h13 hw) ?_
    refine x_iload_n (pc := 41) dX6_loseAboveRoom_41 0 rfl ?_
    refine x_i2l (pc := 42) dX6_loseAboveRoom_42 (by unfold inI; omega) ?_
    refine x_ladd (pc := 43) dX6_loseAboveRoom_43 ?_
    refine y_putL (pc := 44) 3 dX6_loseAboveRoom_44 fwX6_49 rfl rfl rfl (h13 hw) ?_
    exact y_vret (pc := 47) dX6_loseAboveRoom_47 rfl (by unfold loseC; first | rw [if_pos (by omega)]; rfl | rw [if_neg (by omega)])
theorem ct_get {G : GG} {m : Mem} {w : Nat} (hw : w < 5) (q x : Int) (h : PF m (pl w) w q) (hx : 0 ≤ m 3 w q + x ∧ m 3 w q + x ≤ 1000000) : Ct G MX6_get (rmD 2) [rf G 33 w, .int (iI q), .int (iI x)] (hp (m)) (.inl none) (hp (getC m (pl w) w q x)) := by
  refine x_entry (by decide +kernel) mwX6_get rfl (Nat.le_of_ble_eq_true rfl) ?_
  show X G MX6_get (rmD 2) 0 [(0, rf G 33 w), (1, .int (iI q)), (2, .int (iI x))] [] (hp (m)) 0 0 (.inl none) (hp (getC m (pl w) w q x))
  have hq := h.1
  have hPF : PF (up3 m 3 w q (m 3 w q + x)) (pl w) w q := ⟨h.1, h.2.1, h.2.2.1, h.2.2.2.1, by rw [up3_at]; exact hx⟩
  refine x_aload_n (pc := 0) dX6_get_0 0 rfl ?_
  refine y_getR (pc := 1) dX6_get_1 flX6_12 rfl rfl rfl hw ?_
  refine y_getR (pc := 4) dX6_get_4 flX6_46 rfl rfl rfl (h13 hw) ?_
  refine x_iload_n (pc := 7) dX6_get_7 1 rfl ?_
  refine x_dup2 (pc := 8) dX6_get_8 rfl rfl ?_
  refine y_iald (pc := 9) dX6_get_9 rfl (h13 hw) (by omega) ?_
  refine x_iload_n (pc := 10) dX6_get_10 2 rfl ?_
  refine x_iadd (pc := 11) dX6_get_11 ?_
  refine y_iast (pc := 12) dX6_get_12 rfl (h13 hw) (by omega) ?_
  refine x_aload_n (pc := 13) dX6_get_13 0 rfl ?_
  refine x_iload_n (pc := 14) dX6_get_14 1 rfl ?_
  refine x_callV (pc := 15) _ dX6_get_15 (ct_loseAboveRoom hw q hPF) lkX6_53 rfl rfl rfl rfl (mem_dom0 (by decide) hw) (by decide) (Nat.le_of_ble_eq_true rfl) rfl ?_
  exact y_vret (pc := 18) dX6_get_18 rfl rfl
theorem ct_give {G : GG} {m : Mem} {w : Nat} (hw : w < 5) (q x : Int) (h : PF m (pl w) w q) (h2 : QF m (pl w) q) (hx : 0 ≤ x ∧ x ≤ m 3 w q ∧ x ≤ 1000000) : Ct G MX6_give (rmD 2) [rf G 33 w, .int (iI q), .int (iI x)] (hp (m)) (.inl (some (.int (iI (wearC m (pl w) w q x))))) (hp (giveC m (pl w) w q x)) := by
  refine x_entry (by decide +kernel) mwX6_give rfl (Nat.le_of_ble_eq_true rfl) ?_
  show X G MX6_give (rmD 2) 0 [(0, rf G 33 w), (1, .int (iI q)), (2, .int (iI x))] [] (hp (m)) 0 0 (.inl (some (.int (iI (wearC m (pl w) w q x))))) (hp (giveC m (pl w) w q x))
  have hq := h.1
  have hqb := quartC_b h
  have hfb := h2.2 _ hqb.1 hqb.2
  have hw0 : 0 ≤ wearC m (pl w) w q x := Int.mul_nonneg hx.1 hfb.1
  have hw1 : wearC m (pl w) w q x ≤ 1000000 * 1000 := Int.mul_le_mul hx.2.2 hfb.2 hfb.1 (by omega)
  have hpt := h.2.2.1
  have hin : inI (m 4 w q + wearC m (pl w) w q x) := by unfold inI; omega
  have hPF : PF (up3 (up3 m 3 w q (m 3 w q - x)) 4 w q (min 1000000000 (m 4 w q + wearC m (pl w) w q x))) (pl w) w q := ⟨h.1, h.2.1, by rw [up3_at]; omega, h.2.2.2.1, by
    show 0 ≤ up3 m 3 w q (m 3 w q - x) 3 w q ∧ up3 m 3 w q (m 3 w q - x) 3 w q ≤ 1000000
    rw [up3_at]; have := h.2.2.2.2; omega⟩
  refine x_iload_n (pc := 0) dX6_give_0 2 rfl ?_
  refine x_aload_n (pc := 1) dX6_give_1 0 rfl ?_
  refine y_getR (pc := 2) dX6_give_2 flX6_18 rfl rfl rfl hw ?_
  refine x_iload_n (pc := 5) dX6_give_5 1 rfl ?_
  refine x_aload_n (pc := 6) dX6_give_6 0 rfl ?_
  refine x_iload_n (pc := 7) dX6_give_7 1 rfl ?_
  refine x_callV (pc := 8) _ dX6_give_8 (ct_quarterOf hw q h) lkX6_57 rfl rfl rfl rfl (mem_dom0 (by decide) hw) (by decide) (Nat.le_of_ble_eq_true rfl) rfl ?_
  refine x_callV (pc := 11) _ dX6_give_11 (ct_factor (pl_lt hw) q _ h.1 hqb h2) lkX6_60 rfl rfl rfl rfl (mem_dom0 (by decide) (pl_lt hw)) (by decide) (Nat.le_of_ble_eq_true rfl) rfl ?_
  refine x_imul (pc := 14) dX6_give_14 ?_
  refine x_istore_n (pc := 15) (lv' := [(3, _), (0, _), (1, _), (2, _)]) dX6_give_15 rfl (by decide) rfl ?_
  refine x_aload_n (pc := 16) dX6_give_16 1 rfl ?_
  refine y_getR (pc := 17) dX6_give_17 flX6_12 rfl rfl rfl hw ?_
  refine y_getR (pc := 20) dX6_give_20 flX6_46 rfl rfl rfl (h13 hw) ?_
  refine x_iload_n (pc := 23) dX6_give_23 2 rfl ?_
  refine x_dup2 (pc := 24) dX6_give_24 rfl rfl ?_
  refine y_iald (pc := 25) dX6_give_25 rfl (h13 hw) (by omega) ?_
  refine x_iload_n (pc := 26) dX6_give_26 3 rfl ?_
  refine x_isub (pc := 27) dX6_give_27 ?_
  refine y_iast (pc := 28) dX6_give_28 rfl (h13 hw) (by omega) ?_
  refine x_aload_n (pc := 29) dX6_give_29 1 rfl ?_
  refine y_getR (pc := 30) dX6_give_30 flX6_12 rfl rfl rfl hw ?_
  refine y_getR (pc := 33) dX6_give_33 flX6_39 rfl rfl rfl (h13 hw) ?_
  refine x_iload_n (pc := 36) dX6_give_36 2 rfl ?_
  refine x_ldc (pc := 37) (z := 1000000000) dX6_give_37 kcX6_64 (by decide) ?_
  refine x_aload_n (pc := 39) dX6_give_39 1 rfl ?_
  refine y_getR (pc := 40) dX6_give_40 flX6_12 rfl rfl rfl hw ?_
  refine y_getR (pc := 43) dX6_give_43 flX6_39 rfl rfl rfl (h13 hw) ?_
  refine x_iload_n (pc := 46) dX6_give_46 2 rfl ?_
  refine y_iald (pc := 47) dX6_give_47 rfl (h13 hw) (by omega) ?_
  try simp only [up3_apply, Nat.reduceEqDiff, false_and, and_false, true_and, and_true, if_false, if_true, ite_true, ite_false, reduceIte, OfNat.ofNat_ne_ofNat, ne_eq]
  refine x_iload_n (pc := 48) dX6_give_48 0 rfl ?_
  refine x_iadd (pc := 49) dX6_give_49 ?_
  refine x_min (pc := 50) dX6_give_50 lmX6_65 (by unfold inI; omega) hin (by decide) (Nat.le_of_ble_eq_true rfl) (by decide) (by decide) ?_
  refine y_iast (pc := 53) dX6_give_53 rfl (h13 hw) (by omega) ?_
  refine x_aload_n (pc := 54) dX6_give_54 1 rfl ?_
  refine x_iload_n (pc := 55) dX6_give_55 2 rfl ?_
  refine x_callV (pc := 56) _ dX6_give_56 (ct_loseAboveRoom hw q hPF) lkX6_53 rfl rfl rfl rfl (mem_dom0 (by decide) hw) (by decide) (Nat.le_of_ble_eq_true rfl) rfl ?_
  refine x_iload_n (pc := 59) dX6_give_59 0 rfl ?_
  exact y_iret (pc := 60) dX6_give_60 rfl rfl rfl
