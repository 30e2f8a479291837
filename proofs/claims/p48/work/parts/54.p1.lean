/-! the class's Reader -/
theorem up3_up3 {m : Mem} {k i : Nat} {j a b : Int} : up3 (up3 m k i j a) k i j b = up3 m k i j b := by
  funext k' i' j'
  rw [up3_apply, up3_apply, up3_apply]
  split <;> rfl
theorem up3_id {m : Mem} {k i : Nat} {j : Int} : up3 m k i j (m k i j) = m := by
  funext k' i' j'
  rw [up3_apply]
  split
  · rename_i h; rw [h.1, h.2.1, h.2.2]
  · rfl
def bS (z : Int) : Bool := decide (z = 32)
def bW (z : Int) : Bool := decide (97 ≤ z ∧ z ≤ 122)
def bD (z : Int) : Bool := decide (48 ≤ z ∧ z ≤ 57)
def scF (T : Int → Int) (p : Int → Bool) : Nat → Int → Int
  | 0, a => a
  | n + 1, a => if p (T a) = true then scF T p n (a + 1) else a
theorem scF_b (T : Int → Int) (p : Int → Bool) : ∀ (n : Nat) (a : Int), a ≤ scF T p n a ∧ scF T p n a ≤ a + n := by
  intro n
  induction n with
  | zero => intro a; exact ⟨Int.le_refl a, by show a ≤ a + 0; omega⟩
  | succ n ih =>
    intro a
    show a ≤ (if _ then _ else _) ∧ (if _ then _ else _) ≤ _
    have := ih (a + 1)
    split <;> omega
def dvF (T : Int → Int) : Nat → Int → Int → Int
  | 0, _, v => v
  | n + 1, a, v => if bD (T a) = true then dvF T n (a + 1) (if v < 1000000 then v * 10 + (T a - 48) else v) else v
theorem dvF_b (T : Int → Int) : ∀ (n : Nat) (a v : Int), 0 ≤ v → v ≤ 9999999 → 0 ≤ dvF T n a v ∧ dvF T n a v ≤ 9999999 := by
  intro n
  induction n with
  | zero => intro a v h0 h1; exact ⟨h0, h1⟩
  | succ n ih =>
    intro a v h0 h1
    unfold dvF
    by_cases h : bD (T a) = true
    · rw [if_pos h]
      have h2 := of_decide_eq_true h
      refine ih _ _ ?_ ?_ <;> split <;> omega
    · rw [if_neg h]; exact ⟨h0, h1⟩
def RB (m : Mem) : Prop := (0 ≤ m 34 0 5 ∧ m 34 0 5 ≤ 500) ∧ (0 ≤ m 34 0 6 ∧ m 34 0 6 ≤ m 34 0 5) ∧ (∀ j, 0 ≤ j → j < 500 → -128 ≤ m 35 0 j ∧ m 35 0 j < 128) ∧ (0 ≤ m 34 0 1 ∧ m 34 0 1 ≤ 4)
theorem RB_i {m : Mem} (h : RB m) : inI (m 34 0 1) := by have := h.2.2.2; unfold inI; omega
theorem RB_at {m : Mem} {a : Int} (h : RB m) (h0 : 0 ≤ a) (h1 : a ≤ m 34 0 5) : RB (up3 m 34 0 6 a) := ⟨h.1, ⟨h0, h1⟩, h.2.2.1, h.2.2.2⟩
theorem RB_na {m : Mem} {a : Int} (h : RB m) : RB (up3 m 34 0 7 a) := h
def scM (m : Mem) (p : Int → Bool) : Mem := up3 m 34 0 6 (scF (m 35 0) p (m 34 0 5 - m 34 0 6).toNat (m 34 0 6))
def skM (m : Mem) : Mem := scM m bS
theorem RB_sc {m : Mem} {p : Int → Bool} (h : RB m) : RB (scM m p) := by
  have b := scF_b (m 35 0) p (m 34 0 5 - m 34 0 6).toNat (m 34 0 6)
  have h1 := h.2.1
  exact RB_at h (by omega) (by omega)
def failM (m : Mem) (k q : Int) : Mem := if m 34 0 1 = 0 then up3 (up3 m 34 0 1 k) 34 0 2 q else m
theorem failM_k {m : Mem} {k q : Int} {p : Nat} (h : p ≠ 34) : failM m k q p = m p := by
  unfold failM
  split
  · rw [up3_k h, up3_k h]
  · rfl
theorem failM_j {m : Mem} {k q j : Int} (h1 : j ≠ 1) (h2 : j ≠ 2) : failM m k q 34 0 j = m 34 0 j := by
  unfold failM
  split
  · rw [up3_off h2, up3_off h1]
  · rfl
theorem failM_e {m : Mem} {k q : Int} (hk : k ≠ 0) : failM m k q 34 0 1 ≠ 0 := by
  unfold failM
  split
  · rw [up3_off (by decide), up3_at]; exact hk
  · rename_i h; exact h
theorem RB_fail {m : Mem} {k q : Int} (h : RB m) (hk : 0 ≤ k ∧ k ≤ 4) : RB (failM m k q) := by
  unfold RB
  rw [failM_j (by decide) (by decide), failM_j (by decide) (by decide), failM_k (by decide)]
  refine ⟨h.1, h.2.1, h.2.2.1, ?_⟩
  unfold failM
  split
  · rw [up3_off (by decide), up3_at]; exact hk
  · exact h.2.2.2
abbrev dgP (m : Mem) : Prop := m 34 0 6 < m 34 0 5 ∧ 48 ≤ m 35 0 (m 34 0 6) ∧ m 35 0 (m 34 0 6) ≤ 57
def num1 (m : Mem) : Mem := up3 (skM m) 34 0 7 (skM m 34 0 6)
def num2 (m : Mem) : Mem := scM (num1 m) bD
def numW (m : Mem) : Int := dvF (num1 m 35 0) (num1 m 34 0 5 - num1 m 34 0 6).toNat (num1 m 34 0 6) 0
def nfV (q : Mem) (v lo hi : Int) : Int := if q 34 0 6 = q 34 0 7 then -1 else if v < lo ∨ hi < v then -1 else v
def nfM (q : Mem) (v lo hi : Int) : Mem := if q 34 0 6 = q 34 0 7 then failM q 1 (q 34 0 6) else if v < lo ∨ hi < v then failM q 2 (q 34 0 7) else q
def numV (m : Mem) (lo hi : Int) : Int := if m 34 0 1 = 0 then nfV (num2 m) (numW m) lo hi else -1
def numM (m : Mem) (lo hi : Int) : Mem := if m 34 0 1 = 0 then nfM (num2 m) (numW m) lo hi else m
theorem scM_k {m : Mem} {p : Int → Bool} {k : Nat} (h : k ≠ 34) : scM m p k = m k := up3_k h
theorem scM_j {m : Mem} {p : Int → Bool} {j : Int} (h : j ≠ 6) : scM m p 34 0 j = m 34 0 j := up3_off h
theorem num2_k {m : Mem} {k : Nat} (h : k ≠ 34) : num2 m k = m k := by
  unfold num2 num1 skM
  rw [scM_k h, up3_k h, scM_k h]
theorem num2_j {m : Mem} {j : Int} (h : j ≠ 6 ∧ j ≠ 7) : num2 m 34 0 j = m 34 0 j := by
  unfold num2 num1 skM
  rw [scM_j h.1, up3_off h.2, scM_j h.1]
theorem RB_num2 {m : Mem} (h : RB m) : RB (num2 m) := RB_sc (RB_na (RB_sc h))
theorem numM_k {m : Mem} {lo hi : Int} {k : Nat} (h : k ≠ 34) : numM m lo hi k = m k := by
  unfold numM nfM
  split
  · split
    · rw [failM_k h, num2_k h]
    · split
      · rw [failM_k h, num2_k h]
      · exact num2_k h
  · rfl
theorem numM_j {m : Mem} {lo hi : Int} {j : Int} (h : j = 3 ∨ j = 5) : numM m lo hi 34 0 j = m 34 0 j := by
  unfold numM nfM
  split
  · split
    · rw [failM_j (by omega) (by omega), num2_j (by omega)]
    · split
      · rw [failM_j (by omega) (by omega), num2_j (by omega)]
      · exact num2_j (by omega)
  · rfl
theorem RB_num {m : Mem} {lo hi : Int} (h : RB m) : RB (numM m lo hi) := by
  have h2 := RB_num2 h
  unfold numM nfM
  split
  · split
    · exact RB_fail h2 (by decide)
    · split
      · exact RB_fail h2 (by decide)
      · exact h2
  · exact h
theorem numW_b (m : Mem) : 0 ≤ numW m ∧ numW m ≤ 9999999 := dvF_b _ _ _ _ (by decide) (by decide)
theorem numV_b (m : Mem) (lo hi : Int) : -1 ≤ numV m lo hi ∧ numV m lo hi ≤ 9999999 := by
  have h := numW_b m
  unfold numV nfV
  split
  · split
    · omega
    · split <;> omega
  · omega
theorem num_ok {m : Mem} {lo hi : Int} (h : numM m lo hi 34 0 1 = 0) : m 34 0 1 = 0 ∧ lo ≤ numV m lo hi ∧ numV m lo hi ≤ hi := by
  unfold numM nfM at h
  unfold numV nfV
  by_cases h1 : m 34 0 1 = 0
  · rw [if_pos h1] at h ⊢
    by_cases h2 : num2 m 34 0 6 = num2 m 34 0 7
    · rw [if_pos h2] at h; exact absurd h (failM_e (by decide))
    · rw [if_neg h2] at h ⊢
      by_cases h3 : numW m < lo ∨ hi < numW m
      · rw [if_pos h3] at h; exact absurd h (failM_e (by decide))
      · rw [if_neg h3]; exact ⟨h1, by omega, by omega⟩
  · rw [if_neg h1] at h; exact absurd h h1
theorem ct_fail {G : GG} {m : Mem} (k q : Int) (hB : RB m)  : Ct G MX3_fail (rmD 0) [rf G 34 0, .int (iI k), .int (iI q)] (hp (m)) (.inl none) (hp (failM m k q)) := by
  refine x_entry (by decide +kernel) mwX3_fail rfl (Nat.le_of_ble_eq_true rfl) ?_
  show X G MX3_fail (rmD 0) 0 [(0, rf G 34 0), (1, .int (iI k)), (2, .int (iI q))] [] (hp (m)) 0 0 (.inl none) (hp (failM m k q))
  have b1 := hB.1
  have b2 := hB.2.1
  have b4 := hB.2.2.2
  refine x_aload_n (pc := 0) dX3_fail_0 0 rfl ?_
  refine y_getI (pc := 1) 1 dX3_fail_1 flX3_45 rfl rfl rfl (by decide) ?_
  refine x_if_ne (pc := 4) 17 dX3_fail_4 (by decide) (by unfold inI; omega) (fun c_4 => ?_) (fun c_4 => ?_)
  · exact y_vret (pc := 17) dX3_fail_17 rfl (by unfold failM; rw [if_neg c_4])
  · refine x_aload_n (pc := 7) dX3_fail_7 0 rfl ?_
    refine x_iload_n (pc := 8) dX3_fail_8 1 rfl ?_
    refine y_putI (pc := 9) 1 dX3_fail_9 fwX3_45 rfl rfl rfl (by decide) ?_
    refine x_aload_n (pc := 12) dX3_fail_12 0 rfl ?_
    refine x_iload_n (pc := 13) dX3_fail_13 2 rfl ?_
    refine y_putI (pc := 14) 2 dX3_fail_14 fwX3_48 rfl rfl rfl (by decide) ?_
    exact y_vret (pc := 17) dX3_fail_17 rfl (by unfold failM; rw [if_pos c_4])
theorem ct_digit {G : GG} {m : Mem} (hB : RB m)  : Ct G MX3_digitIsNext (rmD 0) [rf G 34 0] (hp (m)) (.inl (some (.int (iI (if dgP m then 1 else 0))))) (hp (m)) := by
  refine x_entry (by decide +kernel) mwX3_digitIsNext rfl (Nat.le_of_ble_eq_true rfl) ?_
  show X G MX3_digitIsNext (rmD 0) 0 [(0, rf G 34 0)] [] (hp (m)) 0 0 (.inl (some (.int (iI (if dgP m then 1 else 0))))) (hp (m))
  have b1 := hB.1
  have b2 := hB.2.1
  have b4 := hB.2.2.2
  refine x_aload_n (pc := 0) dX3_digitIsNext_0 0 rfl ?_
  refine y_getI (pc := 1) 6 dX3_digitIsNext_1 flX3_54 rfl rfl rfl (by decide) ?_
  refine x_aload_n (pc := 4) dX3_digitIsNext_4 0 rfl ?_
  refine y_getI (pc := 5) 5 dX3_digitIsNext_5 flX3_27 rfl rfl rfl (by decide) ?_
  refine x_icmp_ge (pc := 8) 43 dX3_digitIsNext_8 (by decide) (by unfold inI; omega) (by unfold inI; omega) (fun c_8 => ?_) (fun c_8 => ?_)
  · refine x_iconst (pc := 43) dX3_digitIsNext_43 ?_
    exact y_z0ret (pc := 44) dX3_digitIsNext_44 rfl (by unfold dgP; omega) rfl
  · have tx := hB.2.2.1 (m 34 0 6) (by omega) (by omega)
    refine x_aload_n (pc := 11) dX3_digitIsNext_11 0 rfl ?_
    refine y_getR (pc := 12) dX3_digitIsNext_12 flX3_23 rfl rfl rfl (by decide) ?_
    refine x_aload_n (pc := 15) dX3_digitIsNext_15 0 rfl ?_
    refine y_getI (pc := 16) 6 dX3_digitIsNext_16 flX3_54 rfl rfl rfl (by decide) ?_
    refine y_bald (pc := 19) dX3_digitIsNext_19 rfl (by decide) (by omega) ?_
    refine x_bipush (pc := 20) (z := 48) dX3_digitIsNext_20 (by decide) ?_
    refine x_icmp_lt (pc := 22) 43 dX3_digitIsNext_22 (by decide) (by unfold inI; omega) (by unfold inI; omega) (fun c_22 => ?_) (fun c_22 => ?_)
    · refine x_iconst (pc := 43) dX3_digitIsNext_43 ?_
      exact y_z0ret (pc := 44) dX3_digitIsNext_44 rfl (by unfold dgP; omega) rfl
    · refine x_aload_n (pc := 25) dX3_digitIsNext_25 0 rfl ?_
      refine y_getR (pc := 26) dX3_digitIsNext_26 flX3_23 rfl rfl rfl (by decide) ?_
      refine x_aload_n (pc := 29) dX3_digitIsNext_29 0 rfl ?_
      refine y_getI (pc := 30) 6 dX3_digitIsNext_30 flX3_54 rfl rfl rfl (by decide) ?_
      refine y_bald (pc := 33) dX3_digitIsNext_33 rfl (by decide) (by omega) ?_
      refine x_bipush (pc := 34) (z := 57) dX3_digitIsNext_34 (by decide) ?_
      refine x_icmp_gt (pc := 36) 43 dX3_digitIsNext_36 (by decide) (by unfold inI; omega) (by unfold inI; omega) (fun c_36 => ?_) (fun c_36 => ?_)
      · refine x_iconst (pc := 43) dX3_digitIsNext_43 ?_
        exact y_z0ret (pc := 44) dX3_digitIsNext_44 rfl (by unfold dgP; omega) rfl
      · refine x_iconst (pc := 39) dX3_digitIsNext_39 ?_
        refine x_goto (pc := 40) 44 dX3_digitIsNext_40 (by decide) ?_
        exact y_z1ret (pc := 44) dX3_digitIsNext_44 rfl (by unfold dgP; omega) rfl
theorem lp_skip {G : GG} (m9 : Mem) : ∀ (n : Nat) (m : Mem), RB m → m 34 0 6 + n = m 34 0 5 → m9 = up3 m 34 0 6 (scF (m 35 0) bS n (m 34 0 6)) → X G MX3_skipSpaces (rmD 0) 0 [(0, rf G 34 0)] [] (hp (m)) 0 0 (.inl none) (hp (m9)) := by
  intro n
  induction n with
  | zero =>
    intro m hB hn h9
    have b1 := hB.1
    have b2 := hB.2.1
    have b4 := hB.2.2.2
    refine x_aload_n (pc := 0) dX3_skipSpaces_0 0 rfl ?_
    refine y_getI (pc := 1) 6 dX3_skipSpaces_1 flX3_54 rfl rfl rfl (by decide) ?_
    refine x_aload_n (pc := 4) dX3_skipSpaces_4 0 rfl ?_
    refine y_getI (pc := 5) 5 dX3_skipSpaces_5 flX3_27 rfl rfl rfl (by decide) ?_
    refine x_icmp_ge (pc := 8) 38 dX3_skipSpaces_8 (by decide) (by unfold inI; omega) (by unfold inI; omega) (fun c_8 => ?_) (fun c_8 => (by exfalso; omega))
    exact y_vret (pc := 38) dX3_skipSpaces_38 rfl (by rw [h9]; exact up3_id.symm)
  | succ n ih =>
    intro m hB hn h9
    have b1 := hB.1
    have b2 := hB.2.1
    have b4 := hB.2.2.2
    refine x_aload_n (pc := 0) dX3_skipSpaces_0 0 rfl ?_
    refine y_getI (pc := 1) 6 dX3_skipSpaces_1 flX3_54 rfl rfl rfl (by decide) ?_
    refine x_aload_n (pc := 4) dX3_skipSpaces_4 0 rfl ?_
    refine y_getI (pc := 5) 5 dX3_skipSpaces_5 flX3_27 rfl rfl rfl (by decide) ?_
    refine x_icmp_ge (pc := 8) 38 dX3_skipSpaces_8 (by decide) (by unfold inI; omega) (by unfold inI; omega) (fun c_8 => (by exfalso; omega)) (fun c_8 => ?_)
    have tx := hB.2.2.1 (m 34 0 6) (by omega) (by omega)
    refine x_aload_n (pc := 11) dX3_skipSpaces_11 0 rfl ?_
    refine y_getR (pc := 12) dX3_skipSpaces_12 flX3_23 rfl rfl rfl (by decide) ?_
    refine x_aload_n (pc := 15) dX3_skipSpaces_15 0 rfl ?_
    refine y_getI (pc := 16) 6 dX3_skipSpaces_16 flX3_54 rfl rfl rfl (by decide) ?_
    refine y_bald (pc := 19) dX3_skipSpaces_19 rfl (by decide) (by omega) ?_
    refine x_bipush (pc := 20) (z := 32) dX3_skipSpaces_20 (by decide) ?_
    refine x_icmp_ne (pc := 22) 38 dX3_skipSpaces_22 (by decide) (by unfold inI; omega) (by unfold inI; omega) (fun c_22 => ?_) (fun c_22 => ?_)
    · exact y_vret (pc := 38) dX3_skipSpaces_38 rfl (by rw [h9]; show _ = up3 _ _ _ _ (if _ then _ else _); rw [if_neg (by unfold bS; simpa using c_22), up3_id])
    · refine x_aload_n (pc := 25) dX3_skipSpaces_25 0 rfl ?_
      refine x_dup (pc := 26) dX3_skipSpaces_26 rfl ?_
      refine y_getI (pc := 27) 6 dX3_skipSpaces_27 flX3_54 rfl rfl rfl (by decide) ?_
      refine x_iconst (pc := 30) dX3_skipSpaces_30 ?_
      refine x_iadd (pc := 31) dX3_skipSpaces_31 ?_
      refine y_putI (pc := 32) 6 dX3_skipSpaces_32 fwX3_54 rfl rfl rfl (by decide) ?_
      refine x_goto (pc := 35) 0 dX3_skipSpaces_35 (by decide) ?_
      exact ih (up3 m 34 0 6 (m 34 0 6 + 1)) (RB_at hB (by omega) (by omega)) (by rw [up3_at, up3_off (by decide)]; omega) (by rw [h9, up3_up3, up3_at, up3_k (by decide)]; show up3 _ _ _ _ (if _ then _ else _) = _; rw [if_pos (by unfold bS; simpa using c_22)])
theorem ct_skip {G : GG} {m : Mem} (hB : RB m) : Ct G MX3_skipSpaces (rmD 0) [rf G 34 0] (hp m) (.inl none) (hp (skM m)) := by
  refine x_entry (by decide +kernel) mwX3_skipSpaces rfl (Nat.le_of_ble_eq_true rfl) ?_
  have b2 := hB.2.1
  exact lp_skip _ (m 34 0 5 - m 34 0 6).toNat m hB (by omega) rfl
theorem tl_num {G : GG} {m : Mem} (v lo hi : Int) (hv : 0 ≤ v ∧ v ≤ 9999999) (hlo : inI lo) (hhi : inI hi) (h7 : inI (m 34 0 7)) (hB : RB m)  : X G MX3_nextNumber (rmD 1) 67 [(3, .int (iI v)), (0, rf G 34 0), (1, .int (iI lo)), (2, .int (iI hi))] [] (hp (m)) 0 0 (.inl (some (.int (iI (nfV m v lo hi))))) (hp (nfM m v lo hi)) := by
  have b1 := hB.1
  have b2 := hB.2.1
  have b4 := hB.2.2.2
  refine x_aload_n (pc := 67) dX3_nextNumber_67 1 rfl ?_
  refine y_getI (pc := 68) 6 dX3_nextNumber_68 flX3_54 rfl rfl rfl (by decide) ?_
  refine x_aload_n (pc := 71) dX3_nextNumber_71 1 rfl ?_
  refine y_getI (pc := 72) 7 dX3_nextNumber_72 flX3_150 rfl rfl rfl (by decide) ?_
  refine x_icmp_ne (pc := 75) 89 dX3_nextNumber_75 (by decide) (by unfold inI; omega) h7 (fun c_75 => ?_) (fun c_75 => ?_)
  · refine x_iload_n (pc := 89) dX3_nextNumber_89 0 rfl ?_
    refine x_iload_n (pc := 90) dX3_nextNumber_90 2 rfl ?_
    refine x_icmp_lt (pc := 91) 99 dX3_nextNumber_91 (by decide) (by unfold inI; omega) hlo (fun c_91 => ?_) (fun c_91 => ?_)
    · refine x_aload_n (pc := 99) dX3_nextNumber_99 1 rfl ?_
      refine x_iconst (pc := 100) dX3_nextNumber_100 ?_
      refine x_aload_n (pc := 101) dX3_nextNumber_101 1 rfl ?_
      refine y_getI (pc := 102) 7 dX3_nextNumber_102 flX3_150 rfl rfl rfl (by decide) ?_
      refine x_callV (pc := 105) _ dX3_nextNumber_105 (ct_fail 2 (m 34 0 7) hB) lkX3_67 rfl rfl rfl rfl (mem_dom0 (by decide) (by decide)) (by decide) (Nat.le_of_ble_eq_true rfl) rfl ?_
      refine x_iconst (pc := 108) dX3_nextNumber_108 ?_
      exact y_iret (pc := 109) dX3_nextNumber_109 rfl (by unfold nfV; rw [if_neg c_75, if_pos (Or.inl c_91)]) (by unfold nfM; rw [if_neg c_75, if_pos (Or.inl c_91)])
    · refine x_iload_n (pc := 94) dX3_nextNumber_94 0 rfl ?_
      refine x_iload_n (pc := 95) dX3_nextNumber_95 3 rfl ?_
      refine x_icmp_le (pc := 96) 110 dX3_nextNumber_96 (by decide) (by unfold inI; omega) hhi (fun c_96 => ?_) (fun c_96 => ?_)
      · refine x_iload_n (pc := 110) dX3_nextNumber_110 0 rfl ?_
        exact y_iret (pc := 111) dX3_nextNumber_111 rfl (by unfold nfV; rw [if_neg c_75, if_neg (by omega)]) (by unfold nfM; rw [if_neg c_75, if_neg (by omega)])
      · refine x_aload_n (pc := 99) dX3_nextNumber_99 1 rfl ?_
        refine x_iconst (pc := 100) dX3_nextNumber_100 ?_
        refine x_aload_n (pc := 101) dX3_nextNumber_101 1 rfl ?_
        refine y_getI (pc := 102) 7 dX3_nextNumber_102 flX3_150 rfl rfl rfl (by decide) ?_
        refine x_callV (pc := 105) _ dX3_nextNumber_105 (ct_fail 2 (m 34 0 7) hB) lkX3_67 rfl rfl rfl rfl (mem_dom0 (by decide) (by decide)) (by decide) (Nat.le_of_ble_eq_true rfl) rfl ?_
        refine x_iconst (pc := 108) dX3_nextNumber_108 ?_
        exact y_iret (pc := 109) dX3_nextNumber_109 rfl (by unfold nfV; rw [if_neg c_75, if_pos (by omega)]) (by unfold nfM; rw [if_neg c_75, if_pos (by omega)])
  · refine x_aload_n (pc := 78) dX3_nextNumber_78 1 rfl ?_
    refine x_iconst (pc := 79) dX3_nextNumber_79 ?_
    refine x_aload_n (pc := 80) dX3_nextNumber_80 1 rfl ?_
    refine y_getI (pc := 81) 6 dX3_nextNumber_81 flX3_54 rfl rfl rfl (by decide) ?_
    refine x_callV (pc := 84) _ dX3_nextNumber_84 (ct_fail 1 (m 34 0 6) hB) lkX3_67 rfl rfl rfl rfl (mem_dom0 (by decide) (by decide)) (by decide) (Nat.le_of_ble_eq_true rfl) rfl ?_
    refine x_iconst (pc := 87) dX3_nextNumber_87 ?_
    exact y_iret (pc := 88) dX3_nextNumber_88 rfl (by unfold nfV; rw [if_pos c_75]) (by unfold nfM; rw [if_pos c_75])
theorem lp_num {G : GG} (m9 mE : Mem) (w9 lo hi : Int) (r9 : Option Value) (kk : X G MX3_nextNumber (rmD 1) 67 [(3, .int (iI w9)), (0, rf G 34 0), (1, .int (iI lo)), (2, .int (iI hi))] [] (hp m9) 0 0 (.inl r9) (hp mE))  : ∀ (n : Nat) (m : Mem) (v : Int), RB m → 0 ≤ v ∧ v ≤ 9999999 → m 34 0 6 + n = m 34 0 5 → m9 = up3 m 34 0 6 (scF (m 35 0) bD n (m 34 0 6)) → w9 = dvF (m 35 0) n (m 34 0 6) v → X G MX3_nextNumber (rmD 1) 23 [(3, .int (iI v)), (0, rf G 34 0), (1, .int (iI lo)), (2, .int (iI hi))] [] (hp (m)) 0 0 (.inl r9) (hp (mE)) := by
  intro n
  induction n with
  | zero =>
    intro m v hB hv hn h9 hw
    have b1 := hB.1
    have b2 := hB.2.1
    have b4 := hB.2.2.2
    refine x_aload_n (pc := 23) dX3_nextNumber_23 1 rfl ?_
    refine x_callV (pc := 24) _ dX3_nextNumber_24 (ct_digit hB) lkX3_153 rfl rfl rfl rfl (mem_dom0 (by decide) (by decide)) (by decide) (Nat.le_of_ble_eq_true rfl) rfl ?_
    refine x_ifb_eq (pc := 27) 67 dX3_nextNumber_27 (by decide) (fun c_27 => ?_) (fun c_27 => absurd c_27 (by unfold dgP; omega))
    have e2 : m9 = m := by rw [h9]; exact up3_id
    have e3 : w9 = v := hw
    rw [← e2, ← e3]
    exact x_lv [0, 1, 2, 3] rfl kk
  | succ n ih =>
    intro m v hB hv hn h9 hw
    have b1 := hB.1
    have b2 := hB.2.1
    have b4 := hB.2.2.2
    refine x_aload_n (pc := 23) dX3_nextNumber_23 1 rfl ?_
    refine x_callV (pc := 24) _ dX3_nextNumber_24 (ct_digit hB) lkX3_153 rfl rfl rfl rfl (mem_dom0 (by decide) (by decide)) (by decide) (Nat.le_of_ble_eq_true rfl) rfl ?_
    refine x_ifb_eq (pc := 27) 67 dX3_nextNumber_27 (by decide) (fun c_27 => ?_) (fun c_27 => ?_)
    · have e1 : bD (m 35 0 (m 34 0 6)) ≠ true := by unfold bD; intro z; have := of_decide_eq_true z; exact c_27 (by unfold dgP; omega)
      have e2 : m9 = m := by rw [h9]; show up3 _ _ _ _ (if _ then _ else _) = _; rw [if_neg e1, up3_id]
      have e3 : w9 = v := by rw [hw]; show (if _ then _ else _) = _; rw [if_neg e1]
      rw [← e2, ← e3]
      exact x_lv [0, 1, 2, 3] rfl kk
    · have tx := hB.2.2.1 (m 34 0 6) (by omega) (by omega)
      refine x_iload_n (pc := 30) dX3_nextNumber_30 0 rfl ?_
      refine x_ldc (pc := 31) (z := 1000000) dX3_nextNumber_31 kcX3_156 (by decide) ?_
      refine x_icmp_ge (pc := 33) 54 dX3_nextNumber_33 (by decide) (by unfold inI; omega) (by unfold inI; omega) (fun c_33 => ?_) (fun c_33 => ?_)
      · refine x_aload_n (pc := 54) dX3_nextNumber_54 1 rfl ?_
        refine x_dup (pc := 55) dX3_nextNumber_55 rfl ?_
        refine y_getI (pc := 56) 6 dX3_nextNumber_56 flX3_54 rfl rfl rfl (by decide) ?_
        refine x_iconst (pc := 59) dX3_nextNumber_59 ?_
        refine x_iadd (pc := 60) dX3_nextNumber_60 ?_
        refine y_putI (pc := 61) 6 dX3_nextNumber_61 fwX3_54 rfl rfl rfl (by decide) ?_
        refine x_goto (pc := 64) 23 dX3_nextNumber_64 (by decide) ?_
        have e1 : bD (m 35 0 (m 34 0 6)) = true := by unfold bD; exact decide_eq_true (by omega)
        exact x_lv [0, 1, 2, 3] rfl (ih (up3 m 34 0 6 (m 34 0 6 + 1)) v (RB_at hB (by omega) (by omega)) hv (by rw [up3_at, up3_off (by decide)]; omega) (by rw [h9, up3_up3, up3_at, up3_k (by decide)]; show up3 _ _ _ _ (if _ then _ else _) = _; rw [if_pos e1]) (by rw [hw, up3_at, up3_k (by decide)]; show (if _ then _ else _) = _; rw [if_pos e1, if_neg (by omega)]))
      · refine x_iload_n (pc := 36) dX3_nextNumber_36 0 rfl ?_
        refine x_bipush (pc := 37) (z := 10) dX3_nextNumber_37 (by decide) ?_
        refine x_imul (pc := 39) dX3_nextNumber_39 ?_
        refine x_aload_n (pc := 40) dX3_nextNumber_40 1 rfl ?_
        refine y_getR (pc := 41) dX3_nextNumber_41 flX3_23 rfl rfl rfl (by decide) ?_
        refine x_aload_n (pc := 44) dX3_nextNumber_44 1 rfl ?_
        refine y_getI (pc := 45) 6 dX3_nextNumber_45 flX3_54 rfl rfl rfl (by decide) ?_
        refine y_bald (pc := 48) dX3_nextNumber_48 rfl (by decide) (by omega) ?_
        refine x_bipush (pc := 49) (z := 48) dX3_nextNumber_49 (by decide) ?_
        refine x_isub (pc := 51) dX3_nextNumber_51 ?_
        refine x_iadd (pc := 52) dX3_nextNumber_52 ?_
        refine x_istore_n (pc := 53) (lv' := [(3, _), (0, _), (1, _), (2, _)]) dX3_nextNumber_53 rfl (by decide) rfl ?_
        refine x_aload_n (pc := 54) dX3_nextNumber_54 1 rfl ?_
        refine x_dup (pc := 55) dX3_nextNumber_55 rfl ?_
        refine y_getI (pc := 56) 6 dX3_nextNumber_56 flX3_54 rfl rfl rfl (by decide) ?_
        refine x_iconst (pc := 59) dX3_nextNumber_59 ?_
        refine x_iadd (pc := 60) dX3_nextNumber_60 ?_
        refine y_putI (pc := 61) 6 dX3_nextNumber_61 fwX3_54 rfl rfl rfl (by decide) ?_
        refine x_goto (pc := 64) 23 dX3_nextNumber_64 (by decide) ?_
        have e1 : bD (m 35 0 (m 34 0 6)) = true := by unfold bD; exact decide_eq_true (by omega)
        exact x_lv [0, 1, 2, 3] rfl (ih (up3 m 34 0 6 (m 34 0 6 + 1)) (v * 10 + (m 35 0 (m 34 0 6) - 48)) (RB_at hB (by omega) (by omega)) (by omega) (by rw [up3_at, up3_off (by decide)]; omega) (by rw [h9, up3_up3, up3_at, up3_k (by decide)]; show up3 _ _ _ _ (if _ then _ else _) = _; rw [if_pos e1]) (by rw [hw, up3_at, up3_k (by decide)]; show (if _ then _ else _) = _; rw [if_pos e1, if_pos (by omega)]))
theorem ct_num {G : GG} {m : Mem} (lo hi : Int) (hlo : inI lo) (hhi : inI hi) (hB : RB m)  : Ct G MX3_nextNumber (rmD 1) [rf G 34 0, .int (iI lo), .int (iI hi)] (hp (m)) (.inl (some (.int (iI (numV m lo hi))))) (hp (numM m lo hi)) := by
  refine x_entry (by decide +kernel) mwX3_nextNumber rfl (Nat.le_of_ble_eq_true rfl) ?_
  show X G MX3_nextNumber (rmD 1) 0 [(0, rf G 34 0), (1, .int (iI lo)), (2, .int (iI hi))] [] (hp (m)) 0 0 (.inl (some (.int (iI (numV m lo hi))))) (hp (numM m lo hi))
  have b1 := hB.1
  have b2 := hB.2.1
  have b4 := hB.2.2.2
  refine x_aload_n (pc := 0) dX3_nextNumber_0 0 rfl ?_
  refine y_getI (pc := 1) 1 dX3_nextNumber_1 flX3_45 rfl rfl rfl (by decide) ?_
  refine x_if_eq (pc := 4) 9 dX3_nextNumber_4 (by decide) (by unfold inI; omega) (fun c_4 => ?_) (fun c_4 => ?_)
  · refine x_aload_n (pc := 9) dX3_nextNumber_9 0 rfl ?_
    refine x_callV (pc := 10) _ dX3_nextNumber_10 (ct_skip hB) lkX3_64 rfl rfl rfl rfl (mem_dom0 (by decide) (by decide)) (by decide) (Nat.le_of_ble_eq_true rfl) rfl ?_
    have hB1 : RB (num1 m) := RB_na (RB_sc hB)
    have hB2 := RB_num2 hB
    refine x_aload_n (pc := 13) dX3_nextNumber_13 0 rfl ?_
    refine x_aload_n (pc := 14) dX3_nextNumber_14 0 rfl ?_
    refine y_getI (pc := 15) 6 dX3_nextNumber_15 flX3_54 rfl rfl rfl (by decide) ?_
    refine y_putI (pc := 18) 7 dX3_nextNumber_18 fwX3_150 rfl rfl rfl (by decide) ?_
    refine x_nil (m' := num1 m) rfl ?_
    refine x_iconst (pc := 21) dX3_nextNumber_21 ?_
    refine x_istore_n (pc := 22) (lv' := [(3, _), (0, _), (1, _), (2, _)]) dX3_nextNumber_22 rfl (by decide) rfl ?_
    have c1 := hB1.1
    have c2 := hB1.2.1
    have w := numW_b m
    have k1 : numV m lo hi = nfV (num2 m) (numW m) lo hi := by unfold numV; rw [if_pos c_4]
    have k2 : numM m lo hi = nfM (num2 m) (numW m) lo hi := by unfold numM; rw [if_pos c_4]
    rw [k1, k2]
    have h7 : inI (num2 m 34 0 7) := by
      have e : num2 m 34 0 7 = num1 m 34 0 6 := by unfold num2; rw [scM_j (by decide)]; rfl
      rw [e]; unfold inI; omega
    exact x_lv [0, 1, 2, 3] rfl (lp_num _ _ _ lo hi _ (tl_num (m := num2 m) (numW m) lo hi w hlo hhi h7 hB2) (num1 m 34 0 5 - num1 m 34 0 6).toNat (num1 m) 0 hB1 (by omega) (by omega) rfl rfl)
  · refine x_iconst (pc := 7) dX3_nextNumber_7 ?_
    exact y_iret (pc := 8) dX3_nextNumber_8 rfl (by unfold numV; rw [if_neg c_4]) (by unfold numM; rw [if_neg c_4])
def npM (m : Mem) : Mem := numM m 0 (m 22 3 2 - 1)
def npV (m : Mem) : Int := numV m 0 (m 22 3 2 - 1)
/-- the draft's counts -/
def CB (m : Mem) : Prop := (0 ≤ m 22 3 2 ∧ m 22 3 2 ≤ 8) ∧ (0 ≤ m 22 3 3 ∧ m 22 3 3 ≤ 4) ∧ (0 ≤ m 22 3 4 ∧ m 22 3 4 ≤ 12) ∧ (0 ≤ m 22 3 5 ∧ m 22 3 5 ≤ 12) ∧ (0 ≤ m 22 3 6 ∧ m 22 3 6 ≤ 8) ∧ (0 ≤ m 1 4 0 ∧ m 1 4 0 ≤ 16) ∧ (∀ j, 0 ≤ j → j < 64 → -1 ≤ m 27 3 j ∧ m 27 3 j ≤ 12)
theorem CB.k {m m' : Mem} (h : CB m) (e22 : m' 22 = m 22) (e1 : m' 1 = m 1) (e27 : m' 27 = m 27) : CB m' := by unfold CB; rw [e22, e1, e27]; exact h
theorem CB_num {m : Mem} {lo hi : Int} (h : CB m) : CB (numM m lo hi) := h.k (numM_k (by decide)) (numM_k (by decide)) (numM_k (by decide))
theorem CB_fail {m : Mem} {k q : Int} (h : CB m) : CB (failM m k q) := h.k (failM_k (by decide)) (failM_k (by decide)) (failM_k (by decide))
theorem CB_sc {m : Mem} {p : Int → Bool} (h : CB m) : CB (scM m p) := h.k (scM_k (by decide)) (scM_k (by decide)) (scM_k (by decide))
theorem ct_npk {G : GG} {m : Mem} (hB : RB m) (hC : CB m)  : Ct G MX3_nextPack (rmD 2) [rf G 34 0] (hp (m)) (.inl (some (.int (iI (npV m))))) (hp (npM m)) := by
  refine x_entry (by decide +kernel) mwX3_nextPack rfl (Nat.le_of_ble_eq_true rfl) ?_
  show X G MX3_nextPack (rmD 2) 0 [(0, rf G 34 0)] [] (hp (m)) 0 0 (.inl (some (.int (iI (npV m))))) (hp (npM m))
  have n2 := hC.1
  have n3 := hC.2.1
  have n4 := hC.2.2.1
  have n5 := hC.2.2.2.1
  have n6 := hC.2.2.2.2.1
  have n1 := hC.2.2.2.2.2.1
  refine x_aload_n (pc := 0) dX3_nextPack_0 0 rfl ?_
  refine x_iconst (pc := 1) dX3_nextPack_1 ?_
  refine x_aload_n (pc := 2) dX3_nextPack_2 0 rfl ?_
  refine y_getR (pc := 3) dX3_nextPack_3 flX3_17 rfl rfl rfl (by decide) ?_
  refine y_getR (pc := 6) (b := 3) dX3_nextPack_6 flX3_31 rfl rfl rfl (by decide) ?_
  refine y_getI (pc := 9) 2 dX3_nextPack_9 flX3_130 rfl rfl rfl (by decide) ?_
  refine x_iconst (pc := 12) dX3_nextPack_12 ?_
  refine x_isub (pc := 13) dX3_nextPack_13 ?_
  refine x_callV (pc := 14) _ dX3_nextPack_14 (ct_num 0 (m 22 3 2 - 1) (by unfold inI; omega) (by unfold inI; omega) hB) lkX3_157 rfl rfl rfl rfl (mem_dom0 (by decide) (by decide)) (by decide) (Nat.le_of_ble_eq_true rfl) rfl ?_
  exact y_iret (pc := 17) dX3_nextPack_17 rfl rfl rfl
def rd0 (m : Mem) : Mem := if (numM (numM m 1 10000) 1 10000) 34 0 1 = 0 then up3 (up3 (numM (numM m 1 10000) 1 10000) 22 3 0 (numV m 1 10000)) 22 3 1 (numV (numM m 1 10000) 1 10000) else (numM (numM m 1 10000) 1 10000)
theorem ct_rd0 {G : GG} {m : Mem} (hB : RB m)  : Ct G MX3_readPacks (rmD 3) [rf G 34 0] (hp (m)) (.inl none) (hp (rd0 m)) := by
  refine x_entry (by decide +kernel) mwX3_readPacks rfl (Nat.le_of_ble_eq_true rfl) ?_
  show X G MX3_readPacks (rmD 3) 0 [(0, rf G 34 0)] [] (hp (m)) 0 0 (.inl none) (hp (rd0 m))
  refine x_aload_n (pc := 0) dX3_readPacks_0 0 rfl ?_
  refine x_iconst (pc := 1) dX3_readPacks_1 ?_
  refine x_sipush (pc := 2) (z := 10000) dX3_readPacks_2 (by decide) ?_
  refine x_callV (pc := 5) _ dX3_readPacks_5 (ct_num 1 10000 (by unfold inI; omega) (by unfold inI; omega) hB) lkX3_157 rfl rfl rfl rfl (mem_dom0 (by decide) (by decide)) (by decide) (Nat.le_of_ble_eq_true rfl) rfl ?_
  refine x_istore_n (pc := 8) (lv' := [(1, _), (0, _)]) dX3_readPacks_8 rfl (by decide) rfl ?_
  refine x_aload_n (pc := 9) dX3_readPacks_9 1 rfl ?_
  refine x_iconst (pc := 10) dX3_readPacks_10 ?_
  refine x_sipush (pc := 11) (z := 10000) dX3_readPacks_11 (by decide) ?_
  refine x_callV (pc := 14) _ dX3_readPacks_14 (ct_num 1 10000 (by unfold inI; omega) (by unfold inI; omega) (RB_num hB)) lkX3_157 rfl rfl rfl rfl (mem_dom0 (by decide) (by decide)) (by decide) (Nat.le_of_ble_eq_true rfl) rfl ?_
  refine x_istore_n (pc := 17) (lv' := [(2, _), (1, _), (0, _)]) dX3_readPacks_17 rfl (by decide) rfl ?_
  refine x_aload_n (pc := 18) dX3_readPacks_18 2 rfl ?_
  refine y_getI (pc := 19) 1 dX3_readPacks_19 flX3_45 rfl rfl rfl (by decide) ?_
  refine x_if_ne (pc := 22) 47 dX3_readPacks_22 (by decide) (RB_i ((RB_num (RB_num hB)))) (fun c_22 => ?_) (fun c_22 => ?_)
  · exact y_vret (pc := 47) dX3_readPacks_47 rfl (by unfold rd0; rw [if_neg c_22])
  · refine x_aload_n (pc := 25) dX3_readPacks_25 2 rfl ?_
    refine y_getR (pc := 26) dX3_readPacks_26 flX3_17 rfl rfl rfl (by decide) ?_
    refine y_getR (pc := 29) (b := 3) dX3_readPacks_29 flX3_31 rfl rfl rfl (by decide) ?_
    refine x_iload_n (pc := 32) dX3_readPacks_32 1 rfl ?_
    refine y_putI (pc := 33) 0 dX3_readPacks_33 fwX3_160 rfl rfl rfl (by decide) ?_
    refine x_aload_n (pc := 36) dX3_readPacks_36 2 rfl ?_
    refine y_getR (pc := 37) dX3_readPacks_37 flX3_17 rfl rfl rfl (by decide) ?_
    refine y_getR (pc := 40) (b := 3) dX3_readPacks_40 flX3_31 rfl rfl rfl (by decide) ?_
    refine x_iload_n (pc := 43) dX3_readPacks_43 0 rfl ?_
    refine y_putI (pc := 44) 1 dX3_readPacks_44 fwX3_163 rfl rfl rfl (by decide) ?_
    exact y_vret (pc := 47) dX3_readPacks_47 rfl (by unfold rd0; rw [if_pos c_22])
def cuL (m : Mem) (r i : Int) : Nat → Mem
  | 0 => m
  | n + 1 => cuL (up3 (numM m 0 1000) 25 3 (r + i) (numV m 0 1000)) r (i + 1) n
def rd1 (m : Mem) : Mem := up3 (cuL m (m 22 3 3 * 4) 0 4) 22 3 3 (cuL m (m 22 3 3 * 4) 0 4 22 3 3 + 1)
theorem RB_25 {m : Mem} {j z : Int} (h : RB m) : RB (up3 m 25 3 j z) := h
theorem lp_cur {G : GG} (m9 : Mem) (r : Int) (hr : 0 ≤ r ∧ r ≤ 12) : ∀ (n : Nat) (m : Mem) (i : Int), RB m → 0 ≤ i → i + n = 4 → m9 = cuL m r i n → X G MX3_readCurve (rmD 3) 15 [(2, .int (iI i)), (0, rf G 34 0), (1, .int (iI r))] [] (hp (m)) 0 0 (.inl none) (hp (up3 m9 22 3 3 (m9 22 3 3 + 1))) := by
  intro n
  induction n with
  | zero =>
    intro m i hB h0 hn h9
    refine x_iload_n (pc := 15) dX3_readCurve_15 0 rfl ?_
    refine x_iconst (pc := 16) dX3_readCurve_16 ?_
    refine x_icmp_ge (pc := 17) 48 dX3_readCurve_17 (by decide) (by unfold inI; omega) (by unfold inI; omega) (fun c_17 => ?_) (fun c_17 => (by exfalso; omega))
    refine x_aload_n (pc := 48) dX3_readCurve_48 1 rfl ?_
    refine y_getR (pc := 49) dX3_readCurve_49 flX3_17 rfl rfl rfl (by decide) ?_
    refine y_getR (pc := 52) (b := 3) dX3_readCurve_52 flX3_31 rfl rfl rfl (by decide) ?_
    refine x_dup (pc := 55) dX3_readCurve_55 rfl ?_
    refine y_getI (pc := 56) 3 dX3_readCurve_56 flX3_127 rfl rfl rfl (by decide) ?_
    refine x_iconst (pc := 59) dX3_readCurve_59 ?_
    refine x_iadd (pc := 60) dX3_readCurve_60 ?_
    refine y_putI (pc := 61) 3 dX3_readCurve_61 fwX3_127 rfl rfl rfl (by decide) ?_
    exact y_vret (pc := 64) dX3_readCurve_64 rfl (by rw [h9]; rfl)
  | succ n ih =>
    intro m i hB h0 hn h9
    refine x_iload_n (pc := 15) dX3_readCurve_15 0 rfl ?_
    refine x_iconst (pc := 16) dX3_readCurve_16 ?_
    refine x_icmp_ge (pc := 17) 48 dX3_readCurve_17 (by decide) (by unfold inI; omega) (by unfold inI; omega) (fun c_17 => (by exfalso; omega)) (fun c_17 => ?_)
    refine x_aload_n (pc := 20) dX3_readCurve_20 1 rfl ?_
    refine y_getR (pc := 21) dX3_readCurve_21 flX3_17 rfl rfl rfl (by decide) ?_
    refine y_getR (pc := 24) (b := 3) dX3_readCurve_24 flX3_31 rfl rfl rfl (by decide) ?_
    refine y_getR (pc := 27) dX3_readCurve_27 flX3_166 rfl rfl rfl (by decide) ?_
    refine x_iload_n (pc := 30) dX3_readCurve_30 2 rfl ?_
    refine x_iload_n (pc := 31) dX3_readCurve_31 0 rfl ?_
    refine x_iadd (pc := 32) dX3_readCurve_32 ?_
    refine x_aload_n (pc := 33) dX3_readCurve_33 1 rfl ?_
    refine x_iconst (pc := 34) dX3_readCurve_34 ?_
    refine x_sipush (pc := 35) (z := 1000) dX3_readCurve_35 (by decide) ?_
    refine x_callV (pc := 38) _ dX3_readCurve_38 (ct_num 0 1000 (by unfold inI; omega) (by unfold inI; omega) hB) lkX3_157 rfl rfl rfl rfl (mem_dom0 (by decide) (by decide)) (by decide) (Nat.le_of_ble_eq_true rfl) rfl ?_
    refine y_iast (pc := 41) dX3_readCurve_41 rfl (by decide) (by omega) ?_
    refine x_iinc (pc := 42) (lv' := [(2, _), (0, _), (1, _)]) dX3_readCurve_42 0 rfl (by decide) rfl ?_
    refine x_goto (pc := 45) 15 dX3_readCurve_45 (by decide) ?_
    exact x_lv [0, 1, 2] rfl (ih _ (i + 1) (RB_25 (RB_num hB)) (by omega) (by omega) (by rw [h9]; rfl))
theorem ct_rd1 {G : GG} {m : Mem} (h3 : 0 ≤ m 22 3 3 ∧ m 22 3 3 < 4) (hB : RB m)  : Ct G MX3_readCurve (rmD 3) [rf G 34 0] (hp (m)) (.inl none) (hp (rd1 m)) := by
  refine x_entry (by decide +kernel) mwX3_readCurve rfl (Nat.le_of_ble_eq_true rfl) ?_
  show X G MX3_readCurve (rmD 3) 0 [(0, rf G 34 0)] [] (hp (m)) 0 0 (.inl none) (hp (rd1 m))
  refine x_aload_n (pc := 0) dX3_readCurve_0 0 rfl ?_
  refine y_getR (pc := 1) dX3_readCurve_1 flX3_17 rfl rfl rfl (by decide) ?_
  refine y_getR (pc := 4) (b := 3) dX3_readCurve_4 flX3_31 rfl rfl rfl (by decide) ?_
  refine y_getI (pc := 7) 3 dX3_readCurve_7 flX3_127 rfl rfl rfl (by decide) ?_
  refine x_iconst (pc := 10) dX3_readCurve_10 ?_
  refine x_imul (pc := 11) dX3_readCurve_11 ?_
  refine x_istore_n (pc := 12) (lv' := [(1, _), (0, _)]) dX3_readCurve_12 rfl (by decide) rfl ?_
  refine x_iconst (pc := 13) dX3_readCurve_13 ?_
  refine x_istore_n (pc := 14) (lv' := [(2, _), (1, _), (0, _)]) dX3_readCurve_14 rfl (by decide) rfl ?_
  exact x_lv [0, 2, 1] rfl (lp_cur _ (m 22 3 3 * 4) (by omega) 4 m 0 hB (by omega) (by omega) rfl)
def pk2 (m : Mem) : Mem := (numM (numM m 2 100000) 0 (numV m 2 100000))
def pkc (m : Mem) : Int := (numV m 2 100000)
def pkh (m : Mem) : Int := (numV (numM m 2 100000) 0 (numV m 2 100000))
def pk3 (m : Mem) : Mem := skM (pk2 m)
def pk4 (m : Mem) : Mem := if dgP (pk3 m) then numM (pk3 m) 0 (pk3 m 22 3 3 - 1) else pk3 m
def pkv (m : Mem) : Int := if dgP (pk3 m) then numV (pk3 m) 0 (pk3 m 22 3 3 - 1) else -1
def rd2 (m : Mem) : Mem := if pk4 m 34 0 1 = 0 then addP (begP (pk4 m) 4 (pk4 m 22 3 2) (pkh m)) 3 (pkc m) (pkv m) else pk4 m
theorem RB_pk2 {m : Mem} (h : RB m) : RB (pk2 m) := RB_num (RB_num h)
theorem RB_pk3 {m : Mem} (h : RB m) : RB (pk3 m) := RB_sc (RB_pk2 h)
theorem RB_pk4 {m : Mem} (h : RB m) : RB (pk4 m) := by
  unfold pk4
  split
  · exact RB_num (RB_pk3 h)
  · exact RB_pk3 h
theorem pk3_k {m : Mem} {k : Nat} (h : k ≠ 34) : pk3 m k = m k := by unfold pk3 skM pk2; rw [scM_k h, numM_k h, numM_k h]
theorem pk4_k {m : Mem} {k : Nat} (h : k ≠ 34) : pk4 m k = m k := by
  unfold pk4
  split
  · rw [numM_k h]; exact pk3_k h
  · exact pk3_k h
theorem tl_rd2 {G : GG} {m : Mem} (h2 : 0 ≤ m 22 3 2 ∧ m 22 3 2 < 8) (hB : RB m)  : X G MX3_readPack (rmD 3) 46 [(3, .int (iI (pkv m))), (0, rf G 34 0), (1, .int (iI (pkc m))), (2, .int (iI (pkh m)))] [] (hp (pk4 m)) 0 0 (.inl none) (hp (rd2 m)) := by
  refine x_aload_n (pc := 46) dX3_readPack_46 1 rfl ?_
  refine y_getI (pc := 47) 1 dX3_readPack_47 flX3_45 rfl rfl rfl (by decide) ?_
  refine x_if_ne (pc := 50) 86 dX3_readPack_50 (by decide) (RB_i (RB_pk4 hB)) (fun c_50 => ?_) (fun c_50 => ?_)
  · exact y_vret (pc := 86) dX3_readPack_86 rfl (by unfold rd2; rw [if_neg c_50])
  · refine x_aload_n (pc := 53) dX3_readPack_53 1 rfl ?_
    refine y_getR (pc := 54) dX3_readPack_54 flX3_17 rfl rfl rfl (by decide) ?_
    refine y_getR (pc := 57) (b := 4) dX3_readPack_57 flX3_38 rfl rfl rfl (by decide) ?_
    refine x_aload_n (pc := 60) dX3_readPack_60 1 rfl ?_
    refine y_getR (pc := 61) dX3_readPack_61 flX3_17 rfl rfl rfl (by decide) ?_
    refine y_getR (pc := 64) (b := 3) dX3_readPack_64 flX3_31 rfl rfl rfl (by decide) ?_
    refine y_getI (pc := 67) 2 dX3_readPack_67 flX3_130 rfl rfl rfl (by decide) ?_
    refine x_iload_n (pc := 70) dX3_readPack_70 3 rfl ?_
    refine x_callV (pc := 71) _ dX3_readPack_71 (ct_beginPack (by decide) (pk4 m 22 3 2) (pkh m) (by rw [pk4_k (by decide)]; exact h2) (by have := numV_b (numM m 2 100000) 0 (numV m 2 100000); unfold inI pkh; omega)) lkX3_171 rfl rfl rfl rfl (mem_dom0 (by decide) (by decide)) (by decide) (Nat.le_of_ble_eq_true rfl) rfl ?_
    refine x_aload_n (pc := 74) dX3_readPack_74 1 rfl ?_
    refine y_getR (pc := 75) dX3_readPack_75 flX3_17 rfl rfl rfl (by decide) ?_
    refine y_getR (pc := 78) (b := 3) dX3_readPack_78 flX3_31 rfl rfl rfl (by decide) ?_
    refine x_iload_n (pc := 81) dX3_readPack_81 2 rfl ?_
    refine x_iload_n (pc := 82) dX3_readPack_82 0 rfl ?_
    refine x_callV (pc := 83) _ dX3_readPack_83 (ct_addPack (by decide) (pkc m) (pkv m) (by show 0 ≤ pk4 m 22 3 2 ∧ pk4 m 22 3 2 < 8; rw [pk4_k (by decide)]; exact h2)) lkX3_174 rfl rfl rfl rfl (mem_dom0 (by decide) (by decide)) (by decide) (Nat.le_of_ble_eq_true rfl) rfl ?_
    exact y_vret (pc := 86) dX3_readPack_86 rfl (by unfold rd2; rw [if_pos c_50])
theorem ct_rd2 {G : GG} {m : Mem} (h2 : 0 ≤ m 22 3 2 ∧ m 22 3 2 < 8) (hB : RB m) (hC : CB m)  : Ct G MX3_readPack (rmD 3) [rf G 34 0] (hp (m)) (.inl none) (hp (rd2 m)) := by
  refine x_entry (by decide +kernel) mwX3_readPack rfl (Nat.le_of_ble_eq_true rfl) ?_
  show X G MX3_readPack (rmD 3) 0 [(0, rf G 34 0)] [] (hp (m)) 0 0 (.inl none) (hp (rd2 m))
  have n2 := hC.1
  have n3 := hC.2.1
  have n4 := hC.2.2.1
  have n5 := hC.2.2.2.1
  have n6 := hC.2.2.2.2.1
  have n1 := hC.2.2.2.2.2.1
  refine x_aload_n (pc := 0) dX3_readPack_0 0 rfl ?_
  refine x_iconst (pc := 1) dX3_readPack_1 ?_
  refine x_ldc (pc := 2) (z := 100000) dX3_readPack_2 kcX3_170 (by decide) ?_
  refine x_callV (pc := 4) _ dX3_readPack_4 (ct_num 2 100000 (by unfold inI; omega) (by unfold inI; omega) hB) lkX3_157 rfl rfl rfl rfl (mem_dom0 (by decide) (by decide)) (by decide) (Nat.le_of_ble_eq_true rfl) rfl ?_
  refine x_istore_n (pc := 7) (lv' := [(1, _), (0, _)]) dX3_readPack_7 rfl (by decide) rfl ?_
  refine x_aload_n (pc := 8) dX3_readPack_8 1 rfl ?_
  refine x_iconst (pc := 9) dX3_readPack_9 ?_
  refine x_iload_n (pc := 10) dX3_readPack_10 0 rfl ?_
  refine x_callV (pc := 11) _ dX3_readPack_11 (ct_num 0 (numV m 2 100000) (by unfold inI; omega) (by have := numV_b m 2 100000; unfold inI; omega) (RB_num hB)) lkX3_157 rfl rfl rfl rfl (mem_dom0 (by decide) (by decide)) (by decide) (Nat.le_of_ble_eq_true rfl) rfl ?_
  refine x_istore_n (pc := 14) (lv' := [(2, _), (1, _), (0, _)]) dX3_readPack_14 rfl (by decide) rfl ?_
  refine x_iconst (pc := 15) dX3_readPack_15 ?_
  refine x_istore_n (pc := 16) (lv' := [(3, _), (2, _), (1, _), (0, _)]) dX3_readPack_16 rfl (by decide) rfl ?_
  refine x_aload_n (pc := 17) dX3_readPack_17 3 rfl ?_
  refine x_nil (m' := pk2 m) rfl ?_
  refine x_callV (pc := 18) _ dX3_readPack_18 (ct_skip (RB_pk2 hB)) lkX3_64 rfl rfl rfl rfl (mem_dom0 (by decide) (by decide)) (by decide) (Nat.le_of_ble_eq_true rfl) rfl ?_
  refine x_nil (m' := pk3 m) rfl ?_
  refine x_aload_n (pc := 21) dX3_readPack_21 3 rfl ?_
  refine x_callV (pc := 22) _ dX3_readPack_22 (ct_digit (RB_pk3 hB)) lkX3_153 rfl rfl rfl rfl (mem_dom0 (by decide) (by decide)) (by decide) (Nat.le_of_ble_eq_true rfl) rfl ?_
  refine x_ifb_eq (pc := 25) 46 dX3_readPack_25 (by decide) (fun c_25 => ?_) (fun c_25 => ?_)
  · have e1 : pk4 m = pk3 m := by unfold pk4; rw [if_neg c_25]
    have e2 : pkv m = -1 := by unfold pkv; rw [if_neg c_25]
    rw [← e1, ← e2]
    exact x_lv [0, 3, 2, 1] rfl (tl_rd2 h2 hB)
  · refine x_aload_n (pc := 28) dX3_readPack_28 3 rfl ?_
    refine x_iconst (pc := 29) dX3_readPack_29 ?_
    refine x_aload_n (pc := 30) dX3_readPack_30 3 rfl ?_
    refine y_getR (pc := 31) dX3_readPack_31 flX3_17 rfl rfl rfl (by decide) ?_
    refine y_getR (pc := 34) (b := 3) dX3_readPack_34 flX3_31 rfl rfl rfl (by decide) ?_
    refine y_getI (pc := 37) 3 dX3_readPack_37 flX3_127 rfl rfl rfl (by decide) ?_
    refine x_iconst (pc := 40) dX3_readPack_40 ?_
    refine x_isub (pc := 41) dX3_readPack_41 ?_
    refine x_callV (pc := 42) _ dX3_readPack_42 (ct_num 0 (pk3 m 22 3 3 - 1) (by unfold inI; omega) (by rw [pk3_k (by decide)]; unfold inI; omega) (RB_pk3 hB)) lkX3_157 rfl rfl rfl rfl (mem_dom0 (by decide) (by decide)) (by decide) (Nat.le_of_ble_eq_true rfl) rfl ?_
    refine x_istore_n (pc := 45) (lv' := [(3, _), (2, _), (1, _), (0, _)]) dX3_readPack_45 rfl (by decide) rfl ?_
    have e1 : numM (pk3 m) 0 (pk3 m 22 3 3 - 1) = pk4 m := by unfold pk4; rw [if_pos c_25]
    have e2 : numV (pk3 m) 0 (pk3 m 22 3 3 - 1) = pkv m := by unfold pkv; rw [if_pos c_25]
    rw [e1, e2]
    exact x_lv [0, 3, 2, 1] rfl (tl_rd2 h2 hB)
def tp2 (m : Mem) : Mem := npM (npM m)
def tpa (m : Mem) : Int := npV m
def tpb (m : Mem) : Int := npV (npM m)
def tpF (m : Mem) (c : Prop) [Decidable c] : Mem := if tp2 m 34 0 1 = 0 ∧ c then failM (tp2 m) 3 (tp2 m 34 0 7) else tp2 m
abbrev cbP (m : Mem) : Prop := tpb m = tpa m ∨ m 27 3 (tpa m * 8 + tpb m) ≠ -1
abbrev ctP (m : Mem) : Prop := tpb m = tpa m ∨ m 27 3 (tpa m * 8 + tpb m) = -1
theorem RB_tp2 {m : Mem} (h : RB m) : RB (tp2 m) := RB_num (RB_num h)
theorem tp2_k {m : Mem} {k : Nat} (h : k ≠ 34) : tp2 m k = m k := by unfold tp2 npM; rw [numM_k h, numM_k h]
theorem RB_tpF {m : Mem} {c : Prop} [Decidable c] (h : RB m) : RB (tpF m c) := by
  unfold tpF
  split
  · exact RB_fail (RB_tp2 h) (by decide)
  · exact RB_tp2 h
theorem tpF_k {m : Mem} {c : Prop} [Decidable c] {k : Nat} (h : k ≠ 34) : tpF m c k = m k := by
  unfold tpF
  split
  · rw [failM_k h]; exact tp2_k h
  · exact tp2_k h
theorem tp_ok {m : Mem} (h : tp2 m 34 0 1 = 0) : (0 ≤ tpa m ∧ tpa m ≤ m 22 3 2 - 1) ∧ (0 ≤ tpb m ∧ tpb m ≤ m 22 3 2 - 1) ∧ npM m 34 0 1 = 0 ∧ m 34 0 1 = 0 := by
  have h2 := num_ok h
  have h1 := num_ok h2.1
  have e : npM m 22 = m 22 := numM_k (by decide)
  rw [e] at h2
  have h3 := h2.2
  refine ⟨h1.2, ?_, h2.1, h1.1⟩
  unfold tpb npV
  rw [e]
  exact h3
def rd3 (m : Mem) : Mem := if (numM (numM (tpF m (cbP m)) 0 900) 1 10000) 34 0 1 = 0 then addB (begC (numM (numM (tpF m (cbP m)) 0 900) 1 10000) 4 ((numM (numM (tpF m (cbP m)) 0 900) 1 10000) 22 3 5) (numV (tpF m (cbP m)) 0 900) (numV (numM (tpF m (cbP m)) 0 900) 1 10000)) 3 (tpa m) (tpb m) else (numM (numM (tpF m (cbP m)) 0 900) 1 10000)
theorem tl_rd3 {G : GG} {m : Mem} (h5 : 0 ≤ m 22 3 5 ∧ m 22 3 5 < 12) (hB : RB m) (hC : CB m)  : X G MX3_readCable (rmD 3) 47 [(2, .int (iI (tpb m))), (1, .int (iI (tpa m))), (0, rf G 34 0)] [] (hp ((tpF m (cbP m)))) 0 0 (.inl none) (hp (rd3 m)) := by
  refine x_aload_n (pc := 47) dX3_readCable_47 2 rfl ?_
  refine x_iconst (pc := 48) dX3_readCable_48 ?_
  refine x_sipush (pc := 49) (z := 900) dX3_readCable_49 (by decide) ?_
  refine x_callV (pc := 52) _ dX3_readCable_52 (ct_num 0 900 (by unfold inI; omega) (by unfold inI; omega) (RB_tpF hB)) lkX3_157 rfl rfl rfl rfl (mem_dom0 (by decide) (by decide)) (by decide) (Nat.le_of_ble_eq_true rfl) rfl ?_
  refine x_istore_n (pc := 55) (lv' := [(3, _), (2, _), (1, _), (0, _)]) dX3_readCable_55 rfl (by decide) rfl ?_
  refine x_aload_n (pc := 56) dX3_readCable_56 3 rfl ?_
  refine x_iconst (pc := 57) dX3_readCable_57 ?_
  refine x_sipush (pc := 58) (z := 10000) dX3_readCable_58 (by decide) ?_
  refine x_callV (pc := 61) _ dX3_readCable_61 (ct_num 1 10000 (by unfold inI; omega) (by unfold inI; omega) (RB_num (RB_tpF hB))) lkX3_157 rfl rfl rfl rfl (mem_dom0 (by decide) (by decide)) (by decide) (Nat.le_of_ble_eq_true rfl) rfl ?_
  refine x_istore (pc := 64) (lv' := [(4, _), (3, _), (2, _), (1, _), (0, _)]) dX3_readCable_64 (by decide) rfl ?_
  refine x_aload_n (pc := 66) dX3_readCable_66 4 rfl ?_
  refine y_getI (pc := 67) 1 dX3_readCable_67 flX3_45 rfl rfl rfl (by decide) ?_
  refine x_if_ne (pc := 70) 108 dX3_readCable_70 (by decide) (RB_i ((RB_num (RB_num (RB_tpF hB))))) (fun c_70 => ?_) (fun c_70 => ?_)
  · exact y_vret (pc := 108) dX3_readCable_108 rfl (by unfold rd3; rw [if_neg c_70])
  · have ok0 : tp2 m 34 0 1 = 0 := by
      have z := (num_ok (num_ok c_70).1).1
      unfold tpF at z
      split at z
      · exact absurd z (failM_e (by decide))
      · exact z
    have ok := tp_ok ok0
    have n2 := hC.1
    have e22 : (numM (numM (tpF m (cbP m)) 0 900) 1 10000) 22 = m 22 := by rw [numM_k (by decide), numM_k (by decide), tpF_k (by decide)]
    refine x_aload_n (pc := 73) dX3_readCable_73 4 rfl ?_
    refine y_getR (pc := 74) dX3_readCable_74 flX3_17 rfl rfl rfl (by decide) ?_
    refine y_getR (pc := 77) (b := 4) dX3_readCable_77 flX3_38 rfl rfl rfl (by decide) ?_
    refine x_aload_n (pc := 80) dX3_readCable_80 4 rfl ?_
    refine y_getR (pc := 81) dX3_readCable_81 flX3_17 rfl rfl rfl (by decide) ?_
    refine y_getR (pc := 84) (b := 3) dX3_readCable_84 flX3_31 rfl rfl rfl (by decide) ?_
    refine y_getI (pc := 87) 5 dX3_readCable_87 flX3_132 rfl rfl rfl (by decide) ?_
    refine x_iload_n (pc := 90) dX3_readCable_90 1 rfl ?_
    refine x_iload (pc := 91) dX3_readCable_91 0 rfl ?_
    refine x_callV (pc := 93) _ dX3_readCable_93 (ct_beginCable (by decide) ((numM (numM (tpF m (cbP m)) 0 900) 1 10000) 22 3 5) (numV (tpF m (cbP m)) 0 900) (numV (numM (tpF m (cbP m)) 0 900) 1 10000) (by rw [e22]; omega)) lkX3_183 rfl rfl rfl rfl (mem_dom0 (by decide) (by decide)) (by decide) (Nat.le_of_ble_eq_true rfl) rfl ?_
    refine x_aload_n (pc := 96) dX3_readCable_96 4 rfl ?_
    refine y_getR (pc := 97) dX3_readCable_97 flX3_17 rfl rfl rfl (by decide) ?_
    refine y_getR (pc := 100) (b := 3) dX3_readCable_100 flX3_31 rfl rfl rfl (by decide) ?_
    refine x_iload_n (pc := 103) dX3_readCable_103 3 rfl ?_
    refine x_iload_n (pc := 104) dX3_readCable_104 2 rfl ?_
    refine x_callV (pc := 105) _ dX3_readCable_105 (ct_addCable (by decide) (tpa m) (tpb m) (by omega) (by omega)) lkX3_187 rfl rfl rfl rfl (mem_dom0 (by decide) (by decide)) (by decide) (Nat.le_of_ble_eq_true rfl) rfl ?_
    exact y_vret (pc := 108) dX3_readCable_108 rfl (by unfold rd3; rw [if_pos c_70])
theorem ct_rd3 {G : GG} {m : Mem} (h5 : 0 ≤ m 22 3 5 ∧ m 22 3 5 < 12) (hB : RB m) (hC : CB m)  : Ct G MX3_readCable (rmD 3) [rf G 34 0] (hp (m)) (.inl none) (hp (rd3 m)) := by
  refine x_entry (by decide +kernel) mwX3_readCable rfl (Nat.le_of_ble_eq_true rfl) ?_
  show X G MX3_readCable (rmD 3) 0 [(0, rf G 34 0)] [] (hp (m)) 0 0 (.inl none) (hp (rd3 m))
  have n2 := hC.1
  have n3 := hC.2.1
  have n4 := hC.2.2.1
  have n5 := hC.2.2.2.1
  have n6 := hC.2.2.2.2.1
  have n1 := hC.2.2.2.2.2.1
  refine x_aload_n (pc := 0) dX3_readCable_0 0 rfl ?_
  refine x_callV (pc := 1) _ dX3_readCable_1 (ct_npk hB hC) lkX3_177 rfl rfl rfl rfl (mem_dom0 (by decide) (by decide)) (by decide) (Nat.le_of_ble_eq_true rfl) rfl ?_
  refine x_istore_n (pc := 4) (lv' := [(1, _), (0, _)]) dX3_readCable_4 rfl (by decide) rfl ?_
  refine x_aload_n (pc := 5) dX3_readCable_5 1 rfl ?_
  refine x_callV (pc := 6) _ dX3_readCable_6 (ct_npk (RB_num hB) (CB_num hC)) lkX3_177 rfl rfl rfl rfl (mem_dom0 (by decide) (by decide)) (by decide) (Nat.le_of_ble_eq_true rfl) rfl ?_
  refine x_nil (m' := tp2 m) rfl ?_
  have b2 := (RB_tp2 hB).2.2.2
  have va := numV_b m 0 (m 22 3 2 - 1)
  have vb := numV_b (npM m) 0 (npM m 22 3 2 - 1)
  have ea : npV m = tpa m := rfl
  have eb : npV (npM m) = tpb m := rfl
  have va' : -1 ≤ tpa m ∧ tpa m ≤ 9999999 := va
  have vb' : -1 ≤ tpb m ∧ tpb m ≤ 9999999 := vb
  rw [ea, eb]
  refine x_istore_n (pc := 9) (lv' := [(2, _), (1, _), (0, _)]) dX3_readCable_9 rfl (by decide) rfl ?_
  refine x_aload_n (pc := 10) dX3_readCable_10 2 rfl ?_
  refine y_getI (pc := 11) 1 dX3_readCable_11 flX3_45 rfl rfl rfl (by decide) ?_
  refine x_if_ne (pc := 14) 47 dX3_readCable_14 (by decide) (by unfold inI; omega) (fun c_14 => ?_) (fun c_14 => ?_)
  · have e1 : tp2 m = tpF m (cbP m) := by unfold tpF; rw [if_neg (fun z => c_14 z.1)]
    refine x_nil e1 ?_
    exact x_lv [0, 1, 2] rfl (tl_rd3 h5 hB hC)
  · refine x_iload_n (pc := 17) dX3_readCable_17 0 rfl ?_
    refine x_iload_n (pc := 18) dX3_readCable_18 1 rfl ?_
    refine x_icmp_eq (pc := 19) 38 dX3_readCable_19 (by decide) (by unfold inI; omega) (by unfold inI; omega) (fun c_19 => ?_) (fun c_19 => ?_)
    · refine x_aload_n (pc := 38) dX3_readCable_38 2 rfl ?_
      refine x_iconst (pc := 39) dX3_readCable_39 ?_
      refine x_aload_n (pc := 40) dX3_readCable_40 2 rfl ?_
      refine y_getI (pc := 41) 7 dX3_readCable_41 flX3_150 rfl rfl rfl (by decide) ?_
      refine x_callV (pc := 44) _ dX3_readCable_44 (ct_fail 3 (tp2 m 34 0 7) (RB_tp2 hB)) lkX3_67 rfl rfl rfl rfl (mem_dom0 (by decide) (by decide)) (by decide) (Nat.le_of_ble_eq_true rfl) rfl ?_
      have e1 : failM (tp2 m) 3 (tp2 m 34 0 7) = tpF m (cbP m) := by unfold tpF; rw [if_pos ⟨c_14, Or.inl c_19⟩]
      refine x_nil e1 ?_
      exact x_lv [0, 1, 2] rfl (tl_rd3 h5 hB hC)
    · refine x_aload_n (pc := 22) dX3_readCable_22 2 rfl ?_
      refine y_getR (pc := 23) dX3_readCable_23 flX3_17 rfl rfl rfl (by decide) ?_
      refine y_getR (pc := 26) (b := 3) dX3_readCable_26 flX3_31 rfl rfl rfl (by decide) ?_
      refine x_iload_n (pc := 29) dX3_readCable_29 1 rfl ?_
      refine x_iload_n (pc := 30) dX3_readCable_30 0 rfl ?_
      have ok := tp_ok c_14
      have e27 : tp2 m 27 = m 27 := tp2_k (by decide)
      have w27 := hC.2.2.2.2.2.2 (tpa m * 8 + tpb m) (by omega) (by omega)
      refine x_callV (pc := 31) _ dX3_readCable_31 (ct_cableBetween (by decide) (tpa m) (tpb m) (by omega) (by omega)) lkX3_180 rfl rfl rfl rfl (mem_dom0 (by decide) (by decide)) (by decide) (Nat.le_of_ble_eq_true rfl) rfl ?_
      rw [e27]
      refine x_iconst (pc := 34) dX3_readCable_34 ?_
      refine x_icmp_eq (pc := 35) 47 dX3_readCable_35 (by decide) (by unfold inI; omega) (by unfold inI; omega) (fun c_35 => ?_) (fun c_35 => ?_)
      · have e1 : tp2 m = tpF m (cbP m) := by unfold tpF; rw [if_neg (fun z => z.2.elim c_19 (fun y => y c_35))]
        refine x_nil e1 ?_
        exact x_lv [0, 1, 2] rfl (tl_rd3 h5 hB hC)
      · refine x_aload_n (pc := 38) dX3_readCable_38 2 rfl ?_
        refine x_iconst (pc := 39) dX3_readCable_39 ?_
        refine x_aload_n (pc := 40) dX3_readCable_40 2 rfl ?_
        refine y_getI (pc := 41) 7 dX3_readCable_41 flX3_150 rfl rfl rfl (by decide) ?_
        refine x_callV (pc := 44) _ dX3_readCable_44 (ct_fail 3 (tp2 m 34 0 7) (RB_tp2 hB)) lkX3_67 rfl rfl rfl rfl (mem_dom0 (by decide) (by decide)) (by decide) (Nat.le_of_ble_eq_true rfl) rfl ?_
        have e1 : failM (tp2 m) 3 (tp2 m 34 0 7) = tpF m (cbP m) := by unfold tpF; rw [if_pos ⟨c_14, Or.inr c_35⟩]
        refine x_nil e1 ?_
        exact x_lv [0, 1, 2] rfl (tl_rd3 h5 hB hC)
def rd4 (m : Mem) : Mem := if (numM (numM (numM (npM m) 0 23) (numV (npM m) 0 23) 23) 1 10000) 34 0 1 = 0 then addU (numM (numM (numM (npM m) 0 23) (numV (npM m) 0 23) 23) 1 10000) 3 (npV m) (numV (npM m) 0 23) (numV (numM (npM m) 0 23) (numV (npM m) 0 23) 23) (numV (numM (numM (npM m) 0 23) (numV (npM m) 0 23) 23) 1 10000) else (numM (numM (numM (npM m) 0 23) (numV (npM m) 0 23) 23) 1 10000)
theorem ct_rd4 {G : GG} {m : Mem} (hB : RB m) (hC : CB m)  : Ct G MX3_readSun (rmD 3) [rf G 34 0] (hp (m)) (.inl none) (hp (rd4 m)) := by
  refine x_entry (by decide +kernel) mwX3_readSun rfl (Nat.le_of_ble_eq_true rfl) ?_
  show X G MX3_readSun (rmD 3) 0 [(0, rf G 34 0)] [] (hp (m)) 0 0 (.inl none) (hp (rd4 m))
  have n2 := hC.1
  have n3 := hC.2.1
  have n4 := hC.2.2.1
  have n5 := hC.2.2.2.1
  have n6 := hC.2.2.2.2.1
  have n1 := hC.2.2.2.2.2.1
  refine x_aload_n (pc := 0) dX3_readSun_0 0 rfl ?_
  refine x_callV (pc := 1) _ dX3_readSun_1 (ct_npk hB hC) lkX3_177 rfl rfl rfl rfl (mem_dom0 (by decide) (by decide)) (by decide) (Nat.le_of_ble_eq_true rfl) rfl ?_
  refine x_istore_n (pc := 4) (lv' := [(1, _), (0, _)]) dX3_readSun_4 rfl (by decide) rfl ?_
  refine x_aload_n (pc := 5) dX3_readSun_5 1 rfl ?_
  refine x_iconst (pc := 6) dX3_readSun_6 ?_
  refine x_bipush (pc := 7) (z := 23) dX3_readSun_7 (by decide) ?_
  refine x_callV (pc := 9) _ dX3_readSun_9 (ct_num 0 23 (by unfold inI; omega) (by unfold inI; omega) (RB_num hB)) lkX3_157 rfl rfl rfl rfl (mem_dom0 (by decide) (by decide)) (by decide) (Nat.le_of_ble_eq_true rfl) rfl ?_
  refine x_istore_n (pc := 12) (lv' := [(2, _), (1, _), (0, _)]) dX3_readSun_12 rfl (by decide) rfl ?_
  refine x_aload_n (pc := 13) dX3_readSun_13 2 rfl ?_
  refine x_iload_n (pc := 14) dX3_readSun_14 0 rfl ?_
  refine x_bipush (pc := 15) (z := 23) dX3_readSun_15 (by decide) ?_
  refine x_callV (pc := 17) _ dX3_readSun_17 (ct_num (numV (npM m) 0 23) 23 (by have := numV_b (npM m) 0 23; unfold inI; omega) (by unfold inI; omega) (RB_num (RB_num hB))) lkX3_157 rfl rfl rfl rfl (mem_dom0 (by decide) (by decide)) (by decide) (Nat.le_of_ble_eq_true rfl) rfl ?_
  refine x_istore_n (pc := 20) (lv' := [(3, _), (2, _), (1, _), (0, _)]) dX3_readSun_20 rfl (by decide) rfl ?_
  refine x_aload_n (pc := 21) dX3_readSun_21 3 rfl ?_
  refine x_iconst (pc := 22) dX3_readSun_22 ?_
  refine x_sipush (pc := 23) (z := 10000) dX3_readSun_23 (by decide) ?_
  refine x_callV (pc := 26) _ dX3_readSun_26 (ct_num 1 10000 (by unfold inI; omega) (by unfold inI; omega) (RB_num (RB_num (RB_num hB)))) lkX3_157 rfl rfl rfl rfl (mem_dom0 (by decide) (by decide)) (by decide) (Nat.le_of_ble_eq_true rfl) rfl ?_
  refine x_istore (pc := 29) (lv' := [(4, _), (3, _), (2, _), (1, _), (0, _)]) dX3_readSun_29 (by decide) rfl ?_
  refine x_aload_n (pc := 31) dX3_readSun_31 4 rfl ?_
  refine y_getI (pc := 32) 1 dX3_readSun_32 flX3_45 rfl rfl rfl (by decide) ?_
  refine x_if_ne (pc := 35) 53 dX3_readSun_35 (by decide) (RB_i ((RB_num (RB_num (RB_num (RB_num hB)))))) (fun c_35 => ?_) (fun c_35 => ?_)
  · exact y_vret (pc := 53) dX3_readSun_53 rfl (by unfold rd4; rw [if_neg c_35])
  · have k4 := num_ok c_35
    have k3 := num_ok k4.1
    have k2 := num_ok k3.1
    have k1 := num_ok k2.1
    have k1b : 0 ≤ npV m ∧ npV m ≤ m 22 3 2 - 1 := k1.2
    refine x_aload_n (pc := 38) dX3_readSun_38 4 rfl ?_
    refine y_getR (pc := 39) dX3_readSun_39 flX3_17 rfl rfl rfl (by decide) ?_
    refine y_getR (pc := 42) (b := 3) dX3_readSun_42 flX3_31 rfl rfl rfl (by decide) ?_
    refine x_iload_n (pc := 45) dX3_readSun_45 3 rfl ?_
    refine x_iload_n (pc := 46) dX3_readSun_46 2 rfl ?_
    refine x_iload_n (pc := 47) dX3_readSun_47 1 rfl ?_
    refine x_iload (pc := 48) dX3_readSun_48 0 rfl ?_
    refine x_callV (pc := 50) _ dX3_readSun_50 (ct_addSun (by decide) (npV m) (numV (npM m) 0 23) (numV (numM (npM m) 0 23) (numV (npM m) 0 23) 23) (numV (numM (numM (npM m) 0 23) (numV (npM m) 0 23) 23) 1 10000) (by omega) (by omega) (by omega)) lkX3_190 rfl rfl rfl rfl (mem_dom0 (by decide) (by decide)) (by decide) (Nat.le_of_ble_eq_true rfl) rfl ?_
    exact y_vret (pc := 53) dX3_readSun_53 rfl (by unfold rd4; rw [if_pos c_35])
def rd5 (m : Mem) : Mem := if (numM (numM (npM m) 0 9999) 1 100000) 34 0 1 = 0 then addT (numM (numM (npM m) 0 9999) 1 100000) 4 (npV m) (numV (npM m) 0 9999) (numV (numM (npM m) 0 9999) 1 100000) else (numM (numM (npM m) 0 9999) 1 100000)
theorem ct_rd5 {G : GG} {m : Mem} (h1 : 0 ≤ m 1 4 0 ∧ m 1 4 0 < 16) (hB : RB m) (hC : CB m)  : Ct G MX3_readTrip (rmD 3) [rf G 34 0] (hp (m)) (.inl none) (hp (rd5 m)) := by
  refine x_entry (by decide +kernel) mwX3_readTrip rfl (Nat.le_of_ble_eq_true rfl) ?_
  show X G MX3_readTrip (rmD 3) 0 [(0, rf G 34 0)] [] (hp (m)) 0 0 (.inl none) (hp (rd5 m))
  have n2 := hC.1
  have n3 := hC.2.1
  have n4 := hC.2.2.1
  have n5 := hC.2.2.2.1
  have n6 := hC.2.2.2.2.1
  have n1 := hC.2.2.2.2.2.1
  refine x_aload_n (pc := 0) dX3_readTrip_0 0 rfl ?_
  refine x_callV (pc := 1) _ dX3_readTrip_1 (ct_npk hB hC) lkX3_177 rfl rfl rfl rfl (mem_dom0 (by decide) (by decide)) (by decide) (Nat.le_of_ble_eq_true rfl) rfl ?_
  refine x_istore_n (pc := 4) (lv' := [(1, _), (0, _)]) dX3_readTrip_4 rfl (by decide) rfl ?_
  refine x_aload_n (pc := 5) dX3_readTrip_5 1 rfl ?_
  refine x_iconst (pc := 6) dX3_readTrip_6 ?_
  refine x_sipush (pc := 7) (z := 9999) dX3_readTrip_7 (by decide) ?_
  refine x_callV (pc := 10) _ dX3_readTrip_10 (ct_num 0 9999 (by unfold inI; omega) (by unfold inI; omega) (RB_num hB)) lkX3_157 rfl rfl rfl rfl (mem_dom0 (by decide) (by decide)) (by decide) (Nat.le_of_ble_eq_true rfl) rfl ?_
  refine x_istore_n (pc := 13) (lv' := [(2, _), (1, _), (0, _)]) dX3_readTrip_13 rfl (by decide) rfl ?_
  refine x_aload_n (pc := 14) dX3_readTrip_14 2 rfl ?_
  refine x_iconst (pc := 15) dX3_readTrip_15 ?_
  refine x_ldc (pc := 16) (z := 100000) dX3_readTrip_16 kcX3_170 (by decide) ?_
  refine x_callV (pc := 18) _ dX3_readTrip_18 (ct_num 1 100000 (by unfold inI; omega) (by unfold inI; omega) (RB_num (RB_num hB))) lkX3_157 rfl rfl rfl rfl (mem_dom0 (by decide) (by decide)) (by decide) (Nat.le_of_ble_eq_true rfl) rfl ?_
  refine x_istore_n (pc := 21) (lv' := [(3, _), (2, _), (1, _), (0, _)]) dX3_readTrip_21 rfl (by decide) rfl ?_
  refine x_aload_n (pc := 22) dX3_readTrip_22 3 rfl ?_
  refine y_getI (pc := 23) 1 dX3_readTrip_23 flX3_45 rfl rfl rfl (by decide) ?_
  refine x_if_ne (pc := 26) 46 dX3_readTrip_26 (by decide) (RB_i ((RB_num (RB_num (RB_num hB))))) (fun c_26 => ?_) (fun c_26 => ?_)
  · exact y_vret (pc := 46) dX3_readTrip_46 rfl (by unfold rd5; rw [if_neg c_26])
  · refine x_aload_n (pc := 29) dX3_readTrip_29 3 rfl ?_
    refine y_getR (pc := 30) dX3_readTrip_30 flX3_17 rfl rfl rfl (by decide) ?_
    refine y_getR (pc := 33) (b := 4) dX3_readTrip_33 flX3_38 rfl rfl rfl (by decide) ?_
    refine y_getR (pc := 36) dX3_readTrip_36 flX3_138 rfl rfl rfl (by decide) ?_
    refine x_iload_n (pc := 39) dX3_readTrip_39 2 rfl ?_
    refine x_iload_n (pc := 40) dX3_readTrip_40 1 rfl ?_
    refine x_iload_n (pc := 41) dX3_readTrip_41 0 rfl ?_
    refine x_callV (pc := 42) _ dX3_readTrip_42 (ct_addT (by decide) (npV m) (numV (npM m) 0 9999) (numV (numM (npM m) 0 9999) 1 100000) (by rw [numM_k (by decide), numM_k (by decide), show npM m 1 = m 1 from numM_k (by decide)]; exact h1)) lkX3_194 rfl rfl rfl rfl (mem_dom0 (by decide) (by decide)) (by decide) (Nat.le_of_ble_eq_true rfl) rfl ?_
    refine x_pop (pc := 45) dX3_readTrip_45 rfl ?_
    exact y_vret (pc := 46) dX3_readTrip_46 rfl (by unfold rd5; rw [if_pos c_26])
def addK (m : Mem) (a b x y z : Int) : Mem := up3 (up3 (up3 (up3 (up3 (up3 (up3 m 28 3 (m 22 3 6) a) 29 3 (m 22 3 6) b) 30 3 (m 22 3 6) x) 31 3 (m 22 3 6) y) 32 3 (m 22 3 6) z) 10 4 (m 22 3 6) 0) 22 3 6 (m 22 3 6 + 1)
def rd6 (m : Mem) : Mem := if (numM (numM (numM (tpF m (ctP m)) 1 100000) 0 99) 0 99) 34 0 1 = 0 then addK (numM (numM (numM (tpF m (ctP m)) 1 100000) 0 99) 0 99) (tpa m) (tpb m) (numV (tpF m (ctP m)) 1 100000) (numV (numM (tpF m (ctP m)) 1 100000) 0 99) (numV (numM (numM (tpF m (ctP m)) 1 100000) 0 99) 0 99) else (numM (numM (numM (tpF m (ctP m)) 1 100000) 0 99) 0 99)
theorem tl_rd6 {G : GG} {m : Mem} (h6 : 0 ≤ m 22 3 6 ∧ m 22 3 6 < 8) (hB : RB m) (hC : CB m)  : X G MX3_readContract (rmD 3) 47 [(2, .int (iI (tpb m))), (1, .int (iI (tpa m))), (0, rf G 34 0)] [] (hp ((tpF m (ctP m)))) 0 0 (.inl none) (hp (rd6 m)) := by
  refine x_aload_n (pc := 47) dX3_readContract_47 2 rfl ?_
  refine x_iconst (pc := 48) dX3_readContract_48 ?_
  refine x_ldc (pc := 49) (z := 100000) dX3_readContract_49 kcX3_170 (by decide) ?_
  refine x_callV (pc := 51) _ dX3_readContract_51 (ct_num 1 100000 (by unfold inI; omega) (by unfold inI; omega) (RB_tpF hB)) lkX3_157 rfl rfl rfl rfl (mem_dom0 (by decide) (by decide)) (by decide) (Nat.le_of_ble_eq_true rfl) rfl ?_
  refine x_istore_n (pc := 54) (lv' := [(3, _), (2, _), (1, _), (0, _)]) dX3_readContract_54 rfl (by decide) rfl ?_
  refine x_aload_n (pc := 55) dX3_readContract_55 3 rfl ?_
  refine x_iconst (pc := 56) dX3_readContract_56 ?_
  refine x_bipush (pc := 57) (z := 99) dX3_readContract_57 (by decide) ?_
  refine x_callV (pc := 59) _ dX3_readContract_59 (ct_num 0 99 (by unfold inI; omega) (by unfold inI; omega) (RB_num (RB_tpF hB))) lkX3_157 rfl rfl rfl rfl (mem_dom0 (by decide) (by decide)) (by decide) (Nat.le_of_ble_eq_true rfl) rfl ?_
  refine x_istore (pc := 62) (lv' := [(4, _), (3, _), (2, _), (1, _), (0, _)]) dX3_readContract_62 (by decide) rfl ?_
  refine x_aload_n (pc := 64) dX3_readContract_64 4 rfl ?_
  refine x_iconst (pc := 65) dX3_readContract_65 ?_
  refine x_bipush (pc := 66) (z := 99) dX3_readContract_66 (by decide) ?_
  refine x_callV (pc := 68) _ dX3_readContract_68 (ct_num 0 99 (by unfold inI; omega) (by unfold inI; omega) (RB_num (RB_num (RB_tpF hB)))) lkX3_157 rfl rfl rfl rfl (mem_dom0 (by decide) (by decide)) (by decide) (Nat.le_of_ble_eq_true rfl) rfl ?_
  refine x_istore (pc := 71) (lv' := [(5, _), (4, _), (3, _), (2, _), (1, _), (0, _)]) dX3_readContract_71 (by decide) rfl ?_
  refine x_aload_n (pc := 73) dX3_readContract_73 5 rfl ?_
  refine y_getI (pc := 74) 1 dX3_readContract_74 flX3_45 rfl rfl rfl (by decide) ?_
  refine x_if_ne (pc := 77) 194 dX3_readContract_77 (by decide) (RB_i ((RB_num (RB_num (RB_num (RB_tpF hB)))))) (fun c_77 => ?_) (fun c_77 => ?_)
  · exact y_vret (pc := 194) dX3_readContract_194 rfl (by unfold rd6; rw [if_neg c_77])
  · have e22 : (numM (numM (numM (tpF m (ctP m)) 1 100000) 0 99) 0 99) 22 3 6 = m 22 3 6 := by rw [numM_k (by decide), numM_k (by decide), numM_k (by decide), tpF_k (by decide)]
    refine x_aload_n (pc := 80) dX3_readContract_80 5 rfl ?_
    refine y_getR (pc := 81) dX3_readContract_81 flX3_17 rfl rfl rfl (by decide) ?_
    refine y_getR (pc := 84) (b := 3) dX3_readContract_84 flX3_31 rfl rfl rfl (by decide) ?_
    refine y_getI (pc := 87) 6 dX3_readContract_87 flX3_147 rfl rfl rfl (by decide) ?_
    refine x_istore (pc := 90) (lv' := [(6, _), (5, _), (4, _), (3, _), (2, _), (1, _), (0, _)]) dX3_readContract_90 (by decide) rfl ?_
    refine x_aload_n (pc := 92) dX3_readContract_92 6 rfl ?_
    refine y_getR (pc := 93) dX3_readContract_93 flX3_17 rfl rfl rfl (by decide) ?_
    refine y_getR (pc := 96) (b := 3) dX3_readContract_96 flX3_31 rfl rfl rfl (by decide) ?_
    refine y_getR (pc := 99) dX3_readContract_99 flX3_198 rfl rfl rfl (by decide) ?_
    refine x_iload (pc := 102) dX3_readContract_102 0 rfl ?_
    refine x_iload_n (pc := 104) dX3_readContract_104 5 rfl ?_
    refine y_iast (pc := 105) dX3_readContract_105 rfl (by decide) (by omega) ?_
    refine x_aload_n (pc := 106) dX3_readContract_106 6 rfl ?_
    refine y_getR (pc := 107) dX3_readContract_107 flX3_17 rfl rfl rfl (by decide) ?_
    refine y_getR (pc := 110) (b := 3) dX3_readContract_110 flX3_31 rfl rfl rfl (by decide) ?_
    refine y_getR (pc := 113) dX3_readContract_113 flX3_201 rfl rfl rfl (by decide) ?_
    refine x_iload (pc := 116) dX3_readContract_116 0 rfl ?_
    refine x_iload_n (pc := 118) dX3_readContract_118 4 rfl ?_
    refine y_iast (pc := 119) dX3_readContract_119 rfl (by decide) (by omega) ?_
    refine x_aload_n (pc := 120) dX3_readContract_120 6 rfl ?_
    refine y_getR (pc := 121) dX3_readContract_121 flX3_17 rfl rfl rfl (by decide) ?_
    refine y_getR (pc := 124) (b := 3) dX3_readContract_124 flX3_31 rfl rfl rfl (by decide) ?_
    refine y_getR (pc := 127) dX3_readContract_127 flX3_204 rfl rfl rfl (by decide) ?_
    refine x_iload (pc := 130) dX3_readContract_130 0 rfl ?_
    refine x_iload_n (pc := 132) dX3_readContract_132 3 rfl ?_
    refine y_iast (pc := 133) dX3_readContract_133 rfl (by decide) (by omega) ?_
    refine x_aload_n (pc := 134) dX3_readContract_134 6 rfl ?_
    refine y_getR (pc := 135) dX3_readContract_135 flX3_17 rfl rfl rfl (by decide) ?_
    refine y_getR (pc := 138) (b := 3) dX3_readContract_138 flX3_31 rfl rfl rfl (by decide) ?_
    refine y_getR (pc := 141) dX3_readContract_141 flX3_207 rfl rfl rfl (by decide) ?_
    refine x_iload (pc := 144) dX3_readContract_144 0 rfl ?_
    refine x_iload (pc := 146) dX3_readContract_146 2 rfl ?_
    refine y_iast (pc := 148) dX3_readContract_148 rfl (by decide) (by omega) ?_
    refine x_aload_n (pc := 149) dX3_readContract_149 6 rfl ?_
    refine y_getR (pc := 150) dX3_readContract_150 flX3_17 rfl rfl rfl (by decide) ?_
    refine y_getR (pc := 153) (b := 3) dX3_readContract_153 flX3_31 rfl rfl rfl (by decide) ?_
    refine y_getR (pc := 156) dX3_readContract_156 flX3_210 rfl rfl rfl (by decide) ?_
    refine x_iload (pc := 159) dX3_readContract_159 0 rfl ?_
    refine x_iload (pc := 161) dX3_readContract_161 1 rfl ?_
    refine y_iast (pc := 163) dX3_readContract_163 rfl (by decide) (by omega) ?_
    refine x_aload_n (pc := 164) dX3_readContract_164 6 rfl ?_
    refine y_getR (pc := 165) dX3_readContract_165 flX3_17 rfl rfl rfl (by decide) ?_
    refine y_getR (pc := 168) (b := 4) dX3_readContract_168 flX3_38 rfl rfl rfl (by decide) ?_
    refine y_getR (pc := 171) dX3_readContract_171 flX3_213 rfl rfl rfl (by decide) ?_
    refine x_iload (pc := 174) dX3_readContract_174 0 rfl ?_
    refine x_iconst (pc := 176) dX3_readContract_176 ?_
    refine y_iast (pc := 177) dX3_readContract_177 rfl (by decide) (by omega) ?_
    refine x_aload_n (pc := 178) dX3_readContract_178 6 rfl ?_
    refine y_getR (pc := 179) dX3_readContract_179 flX3_17 rfl rfl rfl (by decide) ?_
    refine y_getR (pc := 182) (b := 3) dX3_readContract_182 flX3_31 rfl rfl rfl (by decide) ?_
    refine x_dup (pc := 185) dX3_readContract_185 rfl ?_
    refine y_getI (pc := 186) 6 dX3_readContract_186 flX3_147 rfl rfl rfl (by decide) ?_
    refine x_iconst (pc := 189) dX3_readContract_189 ?_
    refine x_iadd (pc := 190) dX3_readContract_190 ?_
    refine y_putI (pc := 191) 6 dX3_readContract_191 fwX3_147 rfl rfl rfl (by decide) ?_
    exact y_vret (pc := 194) dX3_readContract_194 rfl (by unfold rd6; rw [if_pos c_77]; rfl)
theorem ct_rd6 {G : GG} {m : Mem} (h6 : 0 ≤ m 22 3 6 ∧ m 22 3 6 < 8) (hB : RB m) (hC : CB m)  : Ct G MX3_readContract (rmD 3) [rf G 34 0] (hp (m)) (.inl none) (hp (rd6 m)) := by
  refine x_entry (by decide +kernel) mwX3_readContract rfl (Nat.le_of_ble_eq_true rfl) ?_
  show X G MX3_readContract (rmD 3) 0 [(0, rf G 34 0)] [] (hp (m)) 0 0 (.inl none) (hp (rd6 m))
  have n2 := hC.1
  have n3 := hC.2.1
  have n4 := hC.2.2.1
  have n5 := hC.2.2.2.1
  have n6 := hC.2.2.2.2.1
  have n1 := hC.2.2.2.2.2.1
  refine x_aload_n (pc := 0) dX3_readContract_0 0 rfl ?_
  refine x_callV (pc := 1) _ dX3_readContract_1 (ct_npk hB hC) lkX3_177 rfl rfl rfl rfl (mem_dom0 (by decide) (by decide)) (by decide) (Nat.le_of_ble_eq_true rfl) rfl ?_
  refine x_istore_n (pc := 4) (lv' := [(1, _), (0, _)]) dX3_readContract_4 rfl (by decide) rfl ?_
  refine x_aload_n (pc := 5) dX3_readContract_5 1 rfl ?_
  refine x_callV (pc := 6) _ dX3_readContract_6 (ct_npk (RB_num hB) (CB_num hC)) lkX3_177 rfl rfl rfl rfl (mem_dom0 (by decide) (by decide)) (by decide) (Nat.le_of_ble_eq_true rfl) rfl ?_
  refine x_nil (m' := tp2 m) rfl ?_
  have b2 := (RB_tp2 hB).2.2.2
  have va := numV_b m 0 (m 22 3 2 - 1)
  have vb := numV_b (npM m) 0 (npM m 22 3 2 - 1)
  have ea : npV m = tpa m := rfl
  have eb : npV (npM m) = tpb m := rfl
  have va' : -1 ≤ tpa m ∧ tpa m ≤ 9999999 := va
  have vb' : -1 ≤ tpb m ∧ tpb m ≤ 9999999 := vb
  rw [ea, eb]
  refine x_istore_n (pc := 9) (lv' := [(2, _), (1, _), (0, _)]) dX3_readContract_9 rfl (by decide) rfl ?_
  refine x_aload_n (pc := 10) dX3_readContract_10 2 rfl ?_
  refine y_getI (pc := 11) 1 dX3_readContract_11 flX3_45 rfl rfl rfl (by decide) ?_
  refine x_if_ne (pc := 14) 47 dX3_readContract_14 (by decide) (by unfold inI; omega) (fun c_14 => ?_) (fun c_14 => ?_)
  · have e1 : tp2 m = tpF m (ctP m) := by unfold tpF; rw [if_neg (fun z => c_14 z.1)]
    refine x_nil e1 ?_
    exact x_lv [0, 1, 2] rfl (tl_rd6 h6 hB hC)
  · refine x_iload_n (pc := 17) dX3_readContract_17 0 rfl ?_
    refine x_iload_n (pc := 18) dX3_readContract_18 1 rfl ?_
    refine x_icmp_eq (pc := 19) 38 dX3_readContract_19 (by decide) (by unfold inI; omega) (by unfold inI; omega) (fun c_19 => ?_) (fun c_19 => ?_)
    · refine x_aload_n (pc := 38) dX3_readContract_38 2 rfl ?_
      refine x_iconst (pc := 39) dX3_readContract_39 ?_
      refine x_aload_n (pc := 40) dX3_readContract_40 2 rfl ?_
      refine y_getI (pc := 41) 7 dX3_readContract_41 flX3_150 rfl rfl rfl (by decide) ?_
      refine x_callV (pc := 44) _ dX3_readContract_44 (ct_fail 3 (tp2 m 34 0 7) (RB_tp2 hB)) lkX3_67 rfl rfl rfl rfl (mem_dom0 (by decide) (by decide)) (by decide) (Nat.le_of_ble_eq_true rfl) rfl ?_
      have e1 : failM (tp2 m) 3 (tp2 m 34 0 7) = tpF m (ctP m) := by unfold tpF; rw [if_pos ⟨c_14, Or.inl c_19⟩]
      refine x_nil e1 ?_
      exact x_lv [0, 1, 2] rfl (tl_rd6 h6 hB hC)
    · refine x_aload_n (pc := 22) dX3_readContract_22 2 rfl ?_
      refine y_getR (pc := 23) dX3_readContract_23 flX3_17 rfl rfl rfl (by decide) ?_
      refine y_getR (pc := 26) (b := 3) dX3_readContract_26 flX3_31 rfl rfl rfl (by decide) ?_
      refine x_iload_n (pc := 29) dX3_readContract_29 1 rfl ?_
      refine x_iload_n (pc := 30) dX3_readContract_30 0 rfl ?_
      have ok := tp_ok c_14
      have e27 : tp2 m 27 = m 27 := tp2_k (by decide)
      have w27 := hC.2.2.2.2.2.2 (tpa m * 8 + tpb m) (by omega) (by omega)
      refine x_callV (pc := 31) _ dX3_readContract_31 (ct_cableBetween (by decide) (tpa m) (tpb m) (by omega) (by omega)) lkX3_180 rfl rfl rfl rfl (mem_dom0 (by decide) (by decide)) (by decide) (Nat.le_of_ble_eq_true rfl) rfl ?_
      rw [e27]
      refine x_iconst (pc := 34) dX3_readContract_34 ?_
      refine x_icmp_ne (pc := 35) 47 dX3_readContract_35 (by decide) (by unfold inI; omega) (by unfold inI; omega) (fun c_35 => ?_) (fun c_35 => ?_)
      · have e1 : tp2 m = tpF m (ctP m) := by unfold tpF; rw [if_neg (fun z => z.2.elim c_19 (fun y => c_35 y))]
        refine x_nil e1 ?_
        exact x_lv [0, 1, 2] rfl (tl_rd6 h6 hB hC)
      · refine x_aload_n (pc := 38) dX3_readContract_38 2 rfl ?_
        refine x_iconst (pc := 39) dX3_readContract_39 ?_
        refine x_aload_n (pc := 40) dX3_readContract_40 2 rfl ?_
        refine y_getI (pc := 41) 7 dX3_readContract_41 flX3_150 rfl rfl rfl (by decide) ?_
        refine x_callV (pc := 44) _ dX3_readContract_44 (ct_fail 3 (tp2 m 34 0 7) (RB_tp2 hB)) lkX3_67 rfl rfl rfl rfl (mem_dom0 (by decide) (by decide)) (by decide) (Nat.le_of_ble_eq_true rfl) rfl ?_
        have e1 : failM (tp2 m) 3 (tp2 m 34 0 7) = tpF m (ctP m) := by unfold tpF; rw [if_pos ⟨c_14, Or.inr c_35⟩]
        refine x_nil e1 ?_
        exact x_lv [0, 1, 2] rfl (tl_rd6 h6 hB hC)
