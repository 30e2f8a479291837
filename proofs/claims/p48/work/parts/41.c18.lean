theorem ct_passTicksN {G : GG} {m : Mem} {w : Nat} (hw : w < 5) (k : Int) (hk : k ≤ 0) (hi : inI k) : Ct G MX6_passTicks (rmD 5) [rf G 33 w, .int (iI k)] (hp (m)) (.inl none) (hp (m)) := by
  refine x_entry (by decide +kernel) mwX6_passTicks rfl (Nat.le_of_ble_eq_true rfl) ?_
  show X G MX6_passTicks (rmD 5) 0 [(0, rf G 33 w), (1, .int (iI k))] [] (hp (m)) 0 0 (.inl none) (hp (m))
  refine x_iconst (pc := 0) dX6_passTicks_0 ?_
  refine x_istore_n (pc := 1) (lv' := [(2, _), (0, _), (1, _)]) dX6_passTicks_1 rfl (by decide) rfl ?_
  refine x_iload_n (pc := 2) dX6_passTicks_2 0 rfl ?_
  refine x_iload_n (pc := 3) dX6_passTicks_3 2 rfl ?_
  refine x_icmp_ge (pc := 4) 17 dX6_passTicks_4 (by decide) (by unfold inI; omega) hi (fun c_4 => ?_) (fun c_4 => (by exfalso; omega))
  exact y_vret (pc := 17) dX6_passTicks_17 rfl rfl
theorem ct_passTicksZ {G : GG} {m : Mem} {w : Nat} (hw : w < 5) (k : Int) (hi : inI k) (hP : BP m (pl w)) (hS : BS m (pl w) w) (ht : m 0 w 0 + k ≤ 11000) : Ct G MX6_passTicks (rmD 5) [rf G 33 w, .int (iI k)] (hp (m)) (.inl none) (hp (tkL m (pl w) w k.toNat)) := by
  by_cases h : 0 ≤ k
  · exact ct_passTicks hw k h hP hS ht
  · rw [Int.toNat_of_nonpos (by omega)]
    exact ct_passTicksN hw k (by omega) hi
theorem tkL_tb {p s : Nat} {n : Nat} {m : Mem} : tkL m p s n 0 s 0 = m 0 s 0 + n := tkL_t n m
