theorem ct_ckI {G : GG} {m : Mem} {i n : Int} (hi : inI i) (hn : inI n) (h : 0 ≤ i ∧ i < n) : Ct G MX7_checkIndex (rmD 0) [.int (iI i), .int (iI n)] (hp (m)) (.inl none) (hp (m)) := by
  refine x_entry (by decide +kernel) mwX7_checkIndex rfl (Nat.le_of_ble_eq_true rfl) ?_
  show X G MX7_checkIndex (rmD 0) 0 [(0, .int (iI i)), (1, .int (iI n))] [] (hp (m)) 0 0 (.inl none) (hp (m))
  refine x_iload_n (pc := 0) dX7_checkIndex_0 0 rfl ?_
  refine x_if_lt (pc := 1) 9 dX7_checkIndex_1 (by decide) hi (fun c_1 => (by exfalso; omega)) (fun c_1 => ?_)
  refine x_iload_n (pc := 4) dX7_checkIndex_4 0 rfl ?_
  refine x_iload_n (pc := 5) dX7_checkIndex_5 1 rfl ?_
  refine x_icmp_lt (pc := 6) 17 dX7_checkIndex_6 (by decide) hi hn (fun c_6 => ?_) (fun c_6 => (by exfalso; omega))
  exact y_vret (pc := 17) dX7_checkIndex_17 rfl rfl
theorem ct_ckIx {G : GG} {m : Mem} {i n : Int} (hi : inI i) (hn : inI n) (h : ¬ (0 ≤ i ∧ i < n)) : Ct G MX7_checkIndex (rmE 0) [.int (iI i), .int (iI n)] (hp (m)) (.inr ioE) (hp (m)) := by
  refine x_entry (by decide +kernel) mwX7_checkIndex rfl (Nat.le_of_ble_eq_true rfl) ?_
  show X G MX7_checkIndex (rmE 0) 0 [(0, .int (iI i)), (1, .int (iI n))] [] (hp (m)) 0 0 (.inr ioE) (hp (m))
  refine x_iload_n (pc := 0) dX7_checkIndex_0 0 rfl ?_
  refine x_if_lt (pc := 1) 9 dX7_checkIndex_1 (by decide) hi (fun c_1 => ?_) (fun c_1 => ?_)
  · exact x_throw (pc := 9) thr2 dX7_checkIndex_9 dX7_checkIndex_12 dX7_checkIndex_13 dX7_checkIndex_16 rfl rfl (by decide) (Nat.le_of_ble_eq_true rfl) (by decide) (by decide)
  · refine x_iload_n (pc := 4) dX7_checkIndex_4 0 rfl ?_
    refine x_iload_n (pc := 5) dX7_checkIndex_5 1 rfl ?_
    refine x_icmp_lt (pc := 6) 17 dX7_checkIndex_6 (by decide) hi hn (fun c_6 => (by exfalso; omega)) (fun c_6 => ?_)
    exact x_throw (pc := 9) thr2 dX7_checkIndex_9 dX7_checkIndex_12 dX7_checkIndex_13 dX7_checkIndex_16 rfl rfl (by decide) (Nat.le_of_ble_eq_true rfl) (by decide) (by decide)
theorem ct_ckR {G : GG} {m : Mem} {v a b : Int} (hv : inI v) (ha : inI a) (hb : inI b) (h : a ≤ v ∧ v ≤ b) : Ct G MX7_checkRange (rmD 0) [.int (iI v), .int (iI a), .int (iI b)] (hp (m)) (.inl none) (hp (m)) := by
  refine x_entry (by decide +kernel) mwX7_checkRange rfl (Nat.le_of_ble_eq_true rfl) ?_
  show X G MX7_checkRange (rmD 0) 0 [(0, .int (iI v)), (1, .int (iI a)), (2, .int (iI b))] [] (hp (m)) 0 0 (.inl none) (hp (m))
  refine x_iload_n (pc := 0) dX7_checkRange_0 0 rfl ?_
  refine x_iload_n (pc := 1) dX7_checkRange_1 1 rfl ?_
  refine x_icmp_lt (pc := 2) 10 dX7_checkRange_2 (by decide) hv ha (fun c_2 => (by exfalso; omega)) (fun c_2 => ?_)
  refine x_iload_n (pc := 5) dX7_checkRange_5 0 rfl ?_
  refine x_iload_n (pc := 6) dX7_checkRange_6 2 rfl ?_
  refine x_icmp_le (pc := 7) 18 dX7_checkRange_7 (by decide) hv hb (fun c_7 => ?_) (fun c_7 => (by exfalso; omega))
  exact y_vret (pc := 18) dX7_checkRange_18 rfl rfl
theorem ct_ckRx {G : GG} {m : Mem} {v a b : Int} (hv : inI v) (ha : inI a) (hb : inI b) (h : ¬ (a ≤ v ∧ v ≤ b)) : Ct G MX7_checkRange (rmE 0) [.int (iI v), .int (iI a), .int (iI b)] (hp (m)) (.inr iaE) (hp (m)) := by
  refine x_entry (by decide +kernel) mwX7_checkRange rfl (Nat.le_of_ble_eq_true rfl) ?_
  show X G MX7_checkRange (rmE 0) 0 [(0, .int (iI v)), (1, .int (iI a)), (2, .int (iI b))] [] (hp (m)) 0 0 (.inr iaE) (hp (m))
  refine x_iload_n (pc := 0) dX7_checkRange_0 0 rfl ?_
  refine x_iload_n (pc := 1) dX7_checkRange_1 1 rfl ?_
  refine x_icmp_lt (pc := 2) 10 dX7_checkRange_2 (by decide) hv ha (fun c_2 => ?_) (fun c_2 => ?_)
  · exact x_throw (pc := 10) thr1 dX7_checkRange_10 dX7_checkRange_13 dX7_checkRange_14 dX7_checkRange_17 rfl rfl (by decide) (Nat.le_of_ble_eq_true rfl) (by decide) (by decide)
  · refine x_iload_n (pc := 5) dX7_checkRange_5 0 rfl ?_
    refine x_iload_n (pc := 6) dX7_checkRange_6 2 rfl ?_
    refine x_icmp_le (pc := 7) 18 dX7_checkRange_7 (by decide) hv hb (fun c_7 => (by exfalso; omega)) (fun c_7 => ?_)
    exact x_throw (pc := 10) thr1 dX7_checkRange_10 dX7_checkRange_13 dX7_checkRange_14 dX7_checkRange_17 rfl rfl (by decide) (Nat.le_of_ble_eq_true rfl) (by decide) (by decide)
