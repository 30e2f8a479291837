/-- the rows of a block of parts copied from instance a to instance b -/
def cpG (m : Mem) (P : List Nat) (a b : Nat) : Mem := fun k i j => if i = b ∧ k ∈ P then m k a j else m k i j
theorem cpG_A {m : Mem} {P : List Nat} {a b k0 : Nat} (hab : a ≠ b) : cpA (cpG m P a b) k0 a k0 b = cpG m (k0 :: P) a b := by
  funext k i j
  unfold cpA
  by_cases h1 : k = k0 ∧ i = b
  · rw [if_pos h1]
    unfold cpG
    rw [if_neg (fun z => hab z.1), if_pos ⟨h1.2, by rw [h1.1]; exact List.mem_cons_self⟩, h1.1]
  · rw [if_neg h1]
    unfold cpG
    by_cases h2 : i = b ∧ k ∈ P
    · rw [if_pos h2, if_pos ⟨h2.1, List.mem_cons_of_mem _ h2.2⟩]
    · rw [if_neg h2, if_neg (fun z => by rcases List.mem_cons.mp z.2 with q | q; exact h1 ⟨q, z.1⟩; exact h2 ⟨z.1, q⟩)]
theorem cpG_G {m : Mem} {P Q : List Nat} {a b : Nat} (hab : a ≠ b) : cpG (cpG m P a b) Q a b = cpG m (Q ++ P) a b := by
  funext k i j
  unfold cpG
  by_cases h1 : i = b ∧ k ∈ Q
  · rw [if_pos h1, if_neg (fun z => hab z.1), if_pos ⟨h1.1, List.mem_append_left _ h1.2⟩]
  · rw [if_neg h1]
    by_cases h2 : i = b ∧ k ∈ P
    · rw [if_pos h2, if_pos ⟨h2.1, List.mem_append_right _ h2.2⟩]
    · rw [if_neg h2, if_neg (fun z => by rcases List.mem_append.mp z.2 with q | q; exact h1 ⟨z.1, q⟩; exact h2 ⟨z.1, q⟩)]
theorem meq_refl (m : Mem) : meq m m := fun _ _ _ _ _ _ => rfl
theorem meq_trans {m1 m2 m3 : Mem} (h1 : meq m1 m2) (h2 : meq m2 m3) : meq m1 m3 := fun k i hk hi j hj => (h2 k i hk hi j hj).trans (h1 k i hk hi j hj)
theorem rel_j {k N : Nat} {kds : List Nat} {c : Nat} (hs : shp k = .inr (c, kds)) (hall : ∀ j, j < kds.length → rel k j = true → j < N) (j : Nat) (hj : rel k j = true) : j < N := by
  refine hall j ?_ hj
  unfold rel at hj
  rw [hs] at hj
  rcases Nat.lt_or_ge j kds.length with h | h
  · exact h
  · simp only [List.getElem?_eq_none h] at hj; cases hj
theorem meq_1 (m : Mem) (a b : Nat) : meq (up3 m 1 b 0 (m 1 a 0)) (cpG m [1] a b) := by
  intro k i hk hi j hj
  unfold cpG
  rw [up3_apply]
  by_cases h : i = b ∧ k ∈ [1]
  · have hk1 : k = 1 := by simpa using h.2
    subst hk1
    have hj1 := rel_j (k := 1) (N := 1) rfl (by decide) j hj
    have hj0 : j = 0 := by omega
    subst hj0
    rw [if_pos h, if_pos ⟨rfl, h.1, rfl⟩]
    rfl
  · rw [if_neg h, if_neg (fun z => h ⟨z.2.1, by rw [z.1]; exact List.mem_cons_self⟩)]
theorem meq_2 (m : Mem) (a b : Nat) : meq (up3 m 2 b 0 (m 2 a 0)) (cpG m [2] a b) := by
  intro k i hk hi j hj
  unfold cpG
  rw [up3_apply]
  by_cases h : i = b ∧ k ∈ [2]
  · have hk1 : k = 2 := by simpa using h.2
    subst hk1
    have hj1 := rel_j (k := 2) (N := 1) rfl (by decide) j hj
    have hj0 : j = 0 := by omega
    subst hj0
    rw [if_pos h, if_pos ⟨rfl, h.1, rfl⟩]
    rfl
  · rw [if_neg h, if_neg (fun z => h ⟨z.2.1, by rw [z.1]; exact List.mem_cons_self⟩)]
def sc0 (m : Mem) (a b : Nat) : Mem := up3 (up3 (up3 (up3 m 0 b 0 (m 0 a 0)) 0 b 1 (m 0 a 1)) 0 b 2 (m 0 a 2)) 0 b 3 (m 0 a 3)
theorem meq_0 (m : Mem) (a b : Nat) : meq (sc0 m a b) (cpG m [0] a b) := by
  intro k i hk hi j hj
  unfold cpG sc0
  simp only [up3_apply]
  by_cases h : i = b ∧ k ∈ [0]
  · have hk1 : k = 0 := by simpa using h.2
    subst hk1
    have hj1 := rel_j (k := 0) (N := 4) rfl (by decide) j hj
    rw [if_pos h, h.1]
    match j, hj1 with
    | 0, _ => simp
    | 1, _ => simp
    | 2, _ => simp
    | 3, _ => simp
  · rw [if_neg h]
    have h2 : ∀ x : Int, ¬ (k = 0 ∧ i = b ∧ (j : Int) = x) := fun x z => h ⟨z.2.1, by rw [z.1]; exact List.mem_cons_self⟩
    rw [if_neg (h2 3), if_neg (h2 2), if_neg (h2 1), if_neg (h2 0)]
def sc22 (m : Mem) (a b : Nat) : Mem := up3 (up3 (up3 (up3 (up3 (up3 (up3 m 22 b 0 (m 22 a 0)) 22 b 1 (m 22 a 1)) 22 b 2 (m 22 a 2)) 22 b 3 (m 22 a 3)) 22 b 4 (m 22 a 4)) 22 b 5 (m 22 a 5)) 22 b 6 (m 22 a 6)
theorem meq_22 (m : Mem) (a b : Nat) : meq (sc22 m a b) (cpG m [22] a b) := by
  intro k i hk hi j hj
  unfold cpG sc22
  simp only [up3_apply]
  by_cases h : i = b ∧ k ∈ [22]
  · have hk1 : k = 22 := by simpa using h.2
    subst hk1
    have hj1 := rel_j (k := 22) (N := 7) rfl (by decide) j hj
    rw [if_pos h, h.1]
    match j, hj1 with
    | 0, _ => simp
    | 1, _ => simp
    | 2, _ => simp
    | 3, _ => simp
    | 4, _ => simp
    | 5, _ => simp
    | 6, _ => simp
  · rw [if_neg h]
    have h2 : ∀ x : Int, ¬ (k = 22 ∧ i = b ∧ (j : Int) = x) := fun x z => h ⟨z.2.1, by rw [z.1]; exact List.mem_cons_self⟩
    rw [if_neg (h2 6), if_neg (h2 5), if_neg (h2 4), if_neg (h2 3), if_neg (h2 2), if_neg (h2 1), if_neg (h2 0)]
def cpT (m : Mem) (a b : Nat) : Mem := cpG m [14, 13, 12, 11, 1] a b
def cpL (m : Mem) (a b : Nat) : Mem := cpG m [21, 20, 19, 18, 17, 16, 15, 2] a b
def inS : List Nat := [21, 20, 19, 18, 17, 16, 15, 2, 14, 13, 12, 11, 1, 10, 9, 8, 7, 6, 5, 4, 3, 0]
def inP : List Nat := [32, 31, 30, 29, 28, 27, 26, 25, 24, 23, 22]
def cpS (m : Mem) (a b : Nat) : Mem := cpG m inS a b
def cpP (m : Mem) (a b : Nat) : Mem := cpG m inP a b
theorem x_nil {G : GG} {M : Mth} {R : Room} {pc : Nat} {lv : List (Nat × Value)} {st : List Value} {m m' : Mem} {c0 s0 : Nat} {res : Res} {h' : Hp} (e : m = m') (kk : X G M R pc lv st (hp m') c0 s0 res h') : X G M R pc lv st (hp m) c0 s0 res h' := by rw [e]; exact kk
theorem ct_Trips_copyFrom {G : GG} {m : Mem} {a b : Nat} (ha : a < 13) (hb : b < 13) (hab : a ≠ b) : Ct G MX5_copyFrom (rmD 2) [rf G 1 b, rf G 1 a] (hp (m)) (.inl none) (hp (cpT m a b)) := by
  refine x_entry (by decide +kernel) mwX5_copyFrom rfl (Nat.le_of_ble_eq_true rfl) ?_
  show X G MX5_copyFrom (rmD 2) 0 [(0, rf G 1 b), (1, rf G 1 a)] [] (hp (m)) 0 0 (.inl none) (hp (cpT m a b))
  refine x_aload_n (pc := 0) dX5_copyFrom_0 0 rfl ?_
  refine x_aload_n (pc := 1) dX5_copyFrom_1 1 rfl ?_
  refine y_getI (pc := 2) 0 dX5_copyFrom_2 flX5_24 rfl rfl rfl ha ?_
  refine y_putI (pc := 5) 0 dX5_copyFrom_5 fwX5_24 rfl rfl rfl hb ?_
  refine x_meq (meq_1 m a b) ?_
  refine x_aload_n (pc := 8) dX5_copyFrom_8 1 rfl ?_
  refine y_getR (pc := 9) dX5_copyFrom_9 flX5_9 rfl rfl rfl ha ?_
  refine x_aload_n (pc := 12) dX5_copyFrom_12 0 rfl ?_
  refine y_getR (pc := 13) dX5_copyFrom_13 flX5_9 rfl rfl rfl hb ?_
  refine x_callSN (pc := 16) _ dX5_copyFrom_16 (ct_copyRow (n := 16) rfl rfl ha hb (by decide) (by decide) (by decide)) lkX5_28 rfl (by decide) (Nat.le_of_ble_eq_true rfl) rfl ?_
  refine x_nil (cpG_A hab) ?_
  refine x_aload_n (pc := 19) dX5_copyFrom_19 1 rfl ?_
  refine y_getR (pc := 20) dX5_copyFrom_20 flX5_15 rfl rfl rfl ha ?_
  refine x_aload_n (pc := 23) dX5_copyFrom_23 0 rfl ?_
  refine y_getR (pc := 24) dX5_copyFrom_24 flX5_15 rfl rfl rfl hb ?_
  refine x_callSN (pc := 27) _ dX5_copyFrom_27 (ct_copyRow (n := 16) rfl rfl ha hb (by decide) (by decide) (by decide)) lkX5_28 rfl (by decide) (Nat.le_of_ble_eq_true rfl) rfl ?_
  refine x_nil (cpG_A hab) ?_
  refine x_aload_n (pc := 30) dX5_copyFrom_30 1 rfl ?_
  refine y_getR (pc := 31) dX5_copyFrom_31 flX5_18 rfl rfl rfl ha ?_
  refine x_aload_n (pc := 34) dX5_copyFrom_34 0 rfl ?_
  refine y_getR (pc := 35) dX5_copyFrom_35 flX5_18 rfl rfl rfl hb ?_
  refine x_callSN (pc := 38) _ dX5_copyFrom_38 (ct_copyRow (n := 16) rfl rfl ha hb (by decide) (by decide) (by decide)) lkX5_28 rfl (by decide) (Nat.le_of_ble_eq_true rfl) rfl ?_
  refine x_nil (cpG_A hab) ?_
  refine x_aload_n (pc := 41) dX5_copyFrom_41 1 rfl ?_
  refine y_getR (pc := 42) dX5_copyFrom_42 flX5_21 rfl rfl rfl ha ?_
  refine x_aload_n (pc := 45) dX5_copyFrom_45 0 rfl ?_
  refine y_getR (pc := 46) dX5_copyFrom_46 flX5_21 rfl rfl rfl hb ?_
  refine x_callSN (pc := 49) _ dX5_copyFrom_49 (ct_copyRow (n := 16) rfl rfl ha hb (by decide) (by decide) (by decide)) lkX5_28 rfl (by decide) (Nat.le_of_ble_eq_true rfl) rfl ?_
  refine x_nil (cpG_A hab) ?_
  exact y_vret (pc := 52) dX5_copyFrom_52 rfl rfl
theorem ct_Loans_copyFrom {G : GG} {m : Mem} {a b : Nat} (ha : a < 13) (hb : b < 13) (hab : a ≠ b) : Ct G MX1_copyFrom (rmD 2) [rf G 2 b, rf G 2 a] (hp (m)) (.inl none) (hp (cpL m a b)) := by
  refine x_entry (by decide +kernel) mwX1_copyFrom rfl (Nat.le_of_ble_eq_true rfl) ?_
  show X G MX1_copyFrom (rmD 2) 0 [(0, rf G 2 b), (1, rf G 2 a)] [] (hp (m)) 0 0 (.inl none) (hp (cpL m a b))
  refine x_aload_n (pc := 0) dX1_copyFrom_0 0 rfl ?_
  refine x_aload_n (pc := 1) dX1_copyFrom_1 1 rfl ?_
  refine y_getI (pc := 2) 0 dX1_copyFrom_2 flX1_33 rfl rfl rfl ha ?_
  refine y_putI (pc := 5) 0 dX1_copyFrom_5 fwX1_33 rfl rfl rfl hb ?_
  refine x_meq (meq_2 m a b) ?_
  refine x_aload_n (pc := 8) dX1_copyFrom_8 1 rfl ?_
  refine y_getR (pc := 9) dX1_copyFrom_9 flX1_9 rfl rfl rfl ha ?_
  refine x_aload_n (pc := 12) dX1_copyFrom_12 0 rfl ?_
  refine y_getR (pc := 13) dX1_copyFrom_13 flX1_9 rfl rfl rfl hb ?_
  refine x_callSN (pc := 16) _ dX1_copyFrom_16 (ct_copyRow (n := 16) rfl rfl ha hb (by decide) (by decide) (by decide)) lkX1_37 rfl (by decide) (Nat.le_of_ble_eq_true rfl) rfl ?_
  refine x_nil (cpG_A hab) ?_
  refine x_aload_n (pc := 19) dX1_copyFrom_19 1 rfl ?_
  refine y_getR (pc := 20) dX1_copyFrom_20 flX1_15 rfl rfl rfl ha ?_
  refine x_aload_n (pc := 23) dX1_copyFrom_23 0 rfl ?_
  refine y_getR (pc := 24) dX1_copyFrom_24 flX1_15 rfl rfl rfl hb ?_
  refine x_callSN (pc := 27) _ dX1_copyFrom_27 (ct_copyRow (n := 16) rfl rfl ha hb (by decide) (by decide) (by decide)) lkX1_37 rfl (by decide) (Nat.le_of_ble_eq_true rfl) rfl ?_
  refine x_nil (cpG_A hab) ?_
  refine x_aload_n (pc := 30) dX1_copyFrom_30 1 rfl ?_
  refine y_getR (pc := 31) dX1_copyFrom_31 flX1_18 rfl rfl rfl ha ?_
  refine x_aload_n (pc := 34) dX1_copyFrom_34 0 rfl ?_
  refine y_getR (pc := 35) dX1_copyFrom_35 flX1_18 rfl rfl rfl hb ?_
  refine x_callSN (pc := 38) _ dX1_copyFrom_38 (ct_copyRow (n := 16) rfl rfl ha hb (by decide) (by decide) (by decide)) lkX1_37 rfl (by decide) (Nat.le_of_ble_eq_true rfl) rfl ?_
  refine x_nil (cpG_A hab) ?_
  refine x_aload_n (pc := 41) dX1_copyFrom_41 1 rfl ?_
  refine y_getR (pc := 42) dX1_copyFrom_42 flX1_21 rfl rfl rfl ha ?_
  refine x_aload_n (pc := 45) dX1_copyFrom_45 0 rfl ?_
  refine y_getR (pc := 46) dX1_copyFrom_46 flX1_21 rfl rfl rfl hb ?_
  refine x_callSN (pc := 49) _ dX1_copyFrom_49 (ct_copyRow (n := 16) rfl rfl ha hb (by decide) (by decide) (by decide)) lkX1_37 rfl (by decide) (Nat.le_of_ble_eq_true rfl) rfl ?_
  refine x_nil (cpG_A hab) ?_
  refine x_aload_n (pc := 52) dX1_copyFrom_52 1 rfl ?_
  refine y_getR (pc := 53) dX1_copyFrom_53 flX1_24 rfl rfl rfl ha ?_
  refine x_aload_n (pc := 56) dX1_copyFrom_56 0 rfl ?_
  refine y_getR (pc := 57) dX1_copyFrom_57 flX1_24 rfl rfl rfl hb ?_
  refine x_callSN (pc := 60) _ dX1_copyFrom_60 (ct_copyRow (n := 16) rfl rfl ha hb (by decide) (by decide) (by decide)) lkX1_37 rfl (by decide) (Nat.le_of_ble_eq_true rfl) rfl ?_
  refine x_nil (cpG_A hab) ?_
  refine x_aload_n (pc := 63) dX1_copyFrom_63 1 rfl ?_
  refine y_getR (pc := 64) dX1_copyFrom_64 flX1_27 rfl rfl rfl ha ?_
  refine x_aload_n (pc := 67) dX1_copyFrom_67 0 rfl ?_
  refine y_getR (pc := 68) dX1_copyFrom_68 flX1_27 rfl rfl rfl hb ?_
  refine x_callSN (pc := 71) _ dX1_copyFrom_71 (ct_copyRow (n := 16) rfl rfl ha hb (by decide) (by decide) (by decide)) lkX1_37 rfl (by decide) (Nat.le_of_ble_eq_true rfl) rfl ?_
  refine x_nil (cpG_A hab) ?_
  refine x_aload_n (pc := 74) dX1_copyFrom_74 1 rfl ?_
  refine y_getR (pc := 75) dX1_copyFrom_75 flX1_30 rfl rfl rfl ha ?_
  refine x_aload_n (pc := 78) dX1_copyFrom_78 0 rfl ?_
  refine y_getR (pc := 79) dX1_copyFrom_79 flX1_30 rfl rfl rfl hb ?_
  refine x_callSN (pc := 82) _ dX1_copyFrom_82 (ct_copyRow (n := 16) rfl rfl ha hb (by decide) (by decide) (by decide)) lkX1_37 rfl (by decide) (Nat.le_of_ble_eq_true rfl) rfl ?_
  refine x_nil (cpG_A hab) ?_
  exact y_vret (pc := 85) dX1_copyFrom_85 rfl rfl
theorem ct_State_copyFrom {G : GG} {m : Mem} {a b : Nat} (ha : a < 13) (hb : b < 13) (hab : a ≠ b) : Ct G MX4_copyFrom (rmD 3) [rf G 0 b, rf G 0 a] (hp (m)) (.inl none) (hp (cpS m a b)) := by
  refine x_entry (by decide +kernel) mwX4_copyFrom rfl (Nat.le_of_ble_eq_true rfl) ?_
  show X G MX4_copyFrom (rmD 3) 0 [(0, rf G 0 b), (1, rf G 0 a)] [] (hp (m)) 0 0 (.inl none) (hp (cpS m a b))
  refine x_aload_n (pc := 0) dX4_copyFrom_0 0 rfl ?_
  refine x_aload_n (pc := 1) dX4_copyFrom_1 1 rfl ?_
  refine y_getI (pc := 2) 0 dX4_copyFrom_2 flX4_50 rfl rfl rfl ha ?_
  refine y_putI (pc := 5) 0 dX4_copyFrom_5 fwX4_50 rfl rfl rfl hb ?_
  refine x_aload_n (pc := 8) dX4_copyFrom_8 0 rfl ?_
  refine x_aload_n (pc := 9) dX4_copyFrom_9 1 rfl ?_
  refine y_getL (pc := 10) 1 dX4_copyFrom_10 flX4_54 rfl rfl rfl ha ?_
  refine x_top (v' := .long (lI (m 0 a 1))) (by simp [up3_apply, hab]) ?_
  refine y_putL (pc := 13) 1 dX4_copyFrom_13 fwX4_54 rfl rfl rfl hb ?_
  refine x_aload_n (pc := 16) dX4_copyFrom_16 0 rfl ?_
  refine x_aload_n (pc := 17) dX4_copyFrom_17 1 rfl ?_
  refine y_getL (pc := 18) 2 dX4_copyFrom_18 flX4_58 rfl rfl rfl ha ?_
  refine x_top (v' := .long (lI (m 0 a 2))) (by simp [up3_apply, hab]) ?_
  refine y_putL (pc := 21) 2 dX4_copyFrom_21 fwX4_58 rfl rfl rfl hb ?_
  refine x_aload_n (pc := 24) dX4_copyFrom_24 0 rfl ?_
  refine x_aload_n (pc := 25) dX4_copyFrom_25 1 rfl ?_
  refine y_getL (pc := 26) 3 dX4_copyFrom_26 flX4_61 rfl rfl rfl ha ?_
  refine x_top (v' := .long (lI (m 0 a 3))) (by simp [up3_apply, hab]) ?_
  refine y_putL (pc := 29) 3 dX4_copyFrom_29 fwX4_61 rfl rfl rfl hb ?_
  refine x_meq (meq_0 m a b) ?_
  refine x_aload_n (pc := 32) dX4_copyFrom_32 1 rfl ?_
  refine y_getR (pc := 33) dX4_copyFrom_33 flX4_9 rfl rfl rfl ha ?_
  refine x_aload_n (pc := 36) dX4_copyFrom_36 0 rfl ?_
  refine y_getR (pc := 37) dX4_copyFrom_37 flX4_9 rfl rfl rfl hb ?_
  refine x_callSN (pc := 40) _ dX4_copyFrom_40 (ct_copyRow (n := 8) rfl rfl ha hb (by decide) (by decide) (by decide)) lkX4_68 rfl (by decide) (Nat.le_of_ble_eq_true rfl) rfl ?_
  refine x_nil (cpG_A hab) ?_
  refine x_aload_n (pc := 43) dX4_copyFrom_43 1 rfl ?_
  refine y_getR (pc := 44) dX4_copyFrom_44 flX4_15 rfl rfl rfl ha ?_
  refine x_aload_n (pc := 47) dX4_copyFrom_47 0 rfl ?_
  refine y_getR (pc := 48) dX4_copyFrom_48 flX4_15 rfl rfl rfl hb ?_
  refine x_callSN (pc := 51) _ dX4_copyFrom_51 (ct_copyRow (n := 8) rfl rfl ha hb (by decide) (by decide) (by decide)) lkX4_68 rfl (by decide) (Nat.le_of_ble_eq_true rfl) rfl ?_
  refine x_nil (cpG_A hab) ?_
  refine x_aload_n (pc := 54) dX4_copyFrom_54 1 rfl ?_
  refine y_getR (pc := 55) dX4_copyFrom_55 flX4_18 rfl rfl rfl ha ?_
  refine x_aload_n (pc := 58) dX4_copyFrom_58 0 rfl ?_
  refine y_getR (pc := 59) dX4_copyFrom_59 flX4_18 rfl rfl rfl hb ?_
  refine x_callSN (pc := 62) _ dX4_copyFrom_62 (ct_copyRow (n := 8) rfl rfl ha hb (by decide) (by decide) (by decide)) lkX4_68 rfl (by decide) (Nat.le_of_ble_eq_true rfl) rfl ?_
  refine x_nil (cpG_A hab) ?_
  refine x_aload_n (pc := 65) dX4_copyFrom_65 1 rfl ?_
  refine y_getR (pc := 66) dX4_copyFrom_66 flX4_21 rfl rfl rfl ha ?_
  refine x_aload_n (pc := 69) dX4_copyFrom_69 0 rfl ?_
  refine y_getR (pc := 70) dX4_copyFrom_70 flX4_21 rfl rfl rfl hb ?_
  refine x_callSN (pc := 73) _ dX4_copyFrom_73 (ct_copyRow (n := 12) rfl rfl ha hb (by decide) (by decide) (by decide)) lkX4_68 rfl (by decide) (Nat.le_of_ble_eq_true rfl) rfl ?_
  refine x_nil (cpG_A hab) ?_
  refine x_aload_n (pc := 76) dX4_copyFrom_76 1 rfl ?_
  refine y_getR (pc := 77) dX4_copyFrom_77 flX4_24 rfl rfl rfl ha ?_
  refine x_aload_n (pc := 80) dX4_copyFrom_80 0 rfl ?_
  refine y_getR (pc := 81) dX4_copyFrom_81 flX4_24 rfl rfl rfl hb ?_
  refine x_callSN (pc := 84) _ dX4_copyFrom_84 (ct_copyRow (n := 12) rfl rfl ha hb (by decide) (by decide) (by decide)) lkX4_68 rfl (by decide) (Nat.le_of_ble_eq_true rfl) rfl ?_
  refine x_nil (cpG_A hab) ?_
  refine x_aload_n (pc := 87) dX4_copyFrom_87 1 rfl ?_
  refine y_getR (pc := 88) dX4_copyFrom_88 flX4_27 rfl rfl rfl ha ?_
  refine x_aload_n (pc := 91) dX4_copyFrom_91 0 rfl ?_
  refine y_getR (pc := 92) dX4_copyFrom_92 flX4_27 rfl rfl rfl hb ?_
  refine x_callSN (pc := 95) _ dX4_copyFrom_95 (ct_copyRow (n := 12) rfl rfl ha hb (by decide) (by decide) (by decide)) lkX4_68 rfl (by decide) (Nat.le_of_ble_eq_true rfl) rfl ?_
  refine x_nil (cpG_A hab) ?_
  refine x_aload_n (pc := 98) dX4_copyFrom_98 1 rfl ?_
  refine y_getR (pc := 99) dX4_copyFrom_99 flX4_30 rfl rfl rfl ha ?_
  refine x_aload_n (pc := 102) dX4_copyFrom_102 0 rfl ?_
  refine y_getR (pc := 103) dX4_copyFrom_103 flX4_30 rfl rfl rfl hb ?_
  refine x_callSN (pc := 106) _ dX4_copyFrom_106 (ct_copyRow (n := 12) rfl rfl ha hb (by decide) (by decide) (by decide)) lkX4_68 rfl (by decide) (Nat.le_of_ble_eq_true rfl) rfl ?_
  refine x_nil (cpG_A hab) ?_
  refine x_aload_n (pc := 109) dX4_copyFrom_109 1 rfl ?_
  refine y_getR (pc := 110) dX4_copyFrom_110 flX4_33 rfl rfl rfl ha ?_
  refine x_aload_n (pc := 113) dX4_copyFrom_113 0 rfl ?_
  refine y_getR (pc := 114) dX4_copyFrom_114 flX4_33 rfl rfl rfl hb ?_
  refine x_callSN (pc := 117) _ dX4_copyFrom_117 (ct_copyRow (n := 8) rfl rfl ha hb (by decide) (by decide) (by decide)) lkX4_68 rfl (by decide) (Nat.le_of_ble_eq_true rfl) rfl ?_
  refine x_nil (cpG_A hab) ?_
  refine x_aload_n (pc := 120) dX4_copyFrom_120 0 rfl ?_
  refine y_getR (pc := 121) dX4_copyFrom_121 flX4_39 rfl rfl rfl hb ?_
  refine x_aload_n (pc := 124) dX4_copyFrom_124 1 rfl ?_
  refine y_getR (pc := 125) dX4_copyFrom_125 flX4_39 rfl rfl rfl ha ?_
  refine x_callV (pc := 128) _ dX4_copyFrom_128 (ct_Trips_copyFrom ha hb hab) lkX4_72 rfl rfl rfl rfl (mem_dom0 (by decide) hb) (by decide) (Nat.le_of_ble_eq_true rfl) rfl ?_
  refine x_nil (cpG_G hab) ?_
  refine x_aload_n (pc := 131) dX4_copyFrom_131 0 rfl ?_
  refine y_getR (pc := 132) dX4_copyFrom_132 flX4_46 rfl rfl rfl hb ?_
  refine x_aload_n (pc := 135) dX4_copyFrom_135 1 rfl ?_
  refine y_getR (pc := 136) dX4_copyFrom_136 flX4_46 rfl rfl rfl ha ?_
  refine x_callV (pc := 139) _ dX4_copyFrom_139 (ct_Loans_copyFrom ha hb hab) lkX4_76 rfl rfl rfl rfl (mem_dom0 (by decide) hb) (by decide) (Nat.le_of_ble_eq_true rfl) rfl ?_
  refine x_nil (cpG_G hab) ?_
  exact y_vret (pc := 142) dX4_copyFrom_142 rfl rfl
theorem ct_Plan_copyFrom {G : GG} {m : Mem} {a b : Nat} (ha : a < 4) (hb : b < 4) (hab : a ≠ b) : Ct G MX2_copyFrom (rmD 2) [rf G 22 b, rf G 22 a] (hp (m)) (.inl none) (hp (cpP m a b)) := by
  refine x_entry (by decide +kernel) mwX2_copyFrom rfl (Nat.le_of_ble_eq_true rfl) ?_
  show X G MX2_copyFrom (rmD 2) 0 [(0, rf G 22 b), (1, rf G 22 a)] [] (hp (m)) 0 0 (.inl none) (hp (cpP m a b))
  refine x_aload_n (pc := 0) dX2_copyFrom_0 0 rfl ?_
  refine x_aload_n (pc := 1) dX2_copyFrom_1 1 rfl ?_
  refine y_getI (pc := 2) 0 dX2_copyFrom_2 flX2_9 rfl rfl rfl ha ?_
  refine y_putI (pc := 5) 0 dX2_copyFrom_5 fwX2_9 rfl rfl rfl hb ?_
  refine x_aload_n (pc := 8) dX2_copyFrom_8 0 rfl ?_
  refine x_aload_n (pc := 9) dX2_copyFrom_9 1 rfl ?_
  refine y_getI (pc := 10) 1 dX2_copyFrom_10 flX2_15 rfl rfl rfl ha ?_
  refine x_top (v' := .int (iI (m 22 a 1))) (by simp [up3_apply, hab]) ?_
  refine y_putI (pc := 13) 1 dX2_copyFrom_13 fwX2_15 rfl rfl rfl hb ?_
  refine x_aload_n (pc := 16) dX2_copyFrom_16 0 rfl ?_
  refine x_aload_n (pc := 17) dX2_copyFrom_17 1 rfl ?_
  refine y_getI (pc := 18) 2 dX2_copyFrom_18 flX2_55 rfl rfl rfl ha ?_
  refine x_top (v' := .int (iI (m 22 a 2))) (by simp [up3_apply, hab]) ?_
  refine y_putI (pc := 21) 2 dX2_copyFrom_21 fwX2_55 rfl rfl rfl hb ?_
  refine x_aload_n (pc := 24) dX2_copyFrom_24 0 rfl ?_
  refine x_aload_n (pc := 25) dX2_copyFrom_25 1 rfl ?_
  refine y_getI (pc := 26) 3 dX2_copyFrom_26 flX2_58 rfl rfl rfl ha ?_
  refine x_top (v' := .int (iI (m 22 a 3))) (by simp [up3_apply, hab]) ?_
  refine y_putI (pc := 29) 3 dX2_copyFrom_29 fwX2_58 rfl rfl rfl hb ?_
  refine x_aload_n (pc := 32) dX2_copyFrom_32 0 rfl ?_
  refine x_aload_n (pc := 33) dX2_copyFrom_33 1 rfl ?_
  refine y_getI (pc := 34) 4 dX2_copyFrom_34 flX2_61 rfl rfl rfl ha ?_
  refine x_top (v' := .int (iI (m 22 a 4))) (by simp [up3_apply, hab]) ?_
  refine y_putI (pc := 37) 4 dX2_copyFrom_37 fwX2_61 rfl rfl rfl hb ?_
  refine x_aload_n (pc := 40) dX2_copyFrom_40 0 rfl ?_
  refine x_aload_n (pc := 41) dX2_copyFrom_41 1 rfl ?_
  refine y_getI (pc := 42) 5 dX2_copyFrom_42 flX2_64 rfl rfl rfl ha ?_
  refine x_top (v' := .int (iI (m 22 a 5))) (by simp [up3_apply, hab]) ?_
  refine y_putI (pc := 45) 5 dX2_copyFrom_45 fwX2_64 rfl rfl rfl hb ?_
  refine x_aload_n (pc := 48) dX2_copyFrom_48 0 rfl ?_
  refine x_aload_n (pc := 49) dX2_copyFrom_49 1 rfl ?_
  refine y_getI (pc := 50) 6 dX2_copyFrom_50 flX2_67 rfl rfl rfl ha ?_
  refine x_top (v' := .int (iI (m 22 a 6))) (by simp [up3_apply, hab]) ?_
  refine y_putI (pc := 53) 6 dX2_copyFrom_53 fwX2_67 rfl rfl rfl hb ?_
  refine x_meq (meq_22 m a b) ?_
  refine x_aload_n (pc := 56) dX2_copyFrom_56 1 rfl ?_
  refine y_getR (pc := 57) dX2_copyFrom_57 flX2_18 rfl rfl rfl ha ?_
  refine x_aload_n (pc := 60) dX2_copyFrom_60 0 rfl ?_
  refine y_getR (pc := 61) dX2_copyFrom_61 flX2_18 rfl rfl rfl hb ?_
  refine x_callSN (pc := 64) _ dX2_copyFrom_64 (ct_copyRow (n := 8) rfl rfl ha hb (by decide) (by decide) (by decide)) lkX2_70 rfl (by decide) (Nat.le_of_ble_eq_true rfl) rfl ?_
  refine x_nil (cpG_A hab) ?_
  refine x_aload_n (pc := 67) dX2_copyFrom_67 1 rfl ?_
  refine y_getR (pc := 68) dX2_copyFrom_68 flX2_22 rfl rfl rfl ha ?_
  refine x_aload_n (pc := 71) dX2_copyFrom_71 0 rfl ?_
  refine y_getR (pc := 72) dX2_copyFrom_72 flX2_22 rfl rfl rfl hb ?_
  refine x_callSN (pc := 75) _ dX2_copyFrom_75 (ct_copyRow (n := 8) rfl rfl ha hb (by decide) (by decide) (by decide)) lkX2_70 rfl (by decide) (Nat.le_of_ble_eq_true rfl) rfl ?_
  refine x_nil (cpG_A hab) ?_
  refine x_aload_n (pc := 78) dX2_copyFrom_78 1 rfl ?_
  refine y_getR (pc := 79) dX2_copyFrom_79 flX2_25 rfl rfl rfl ha ?_
  refine x_aload_n (pc := 82) dX2_copyFrom_82 0 rfl ?_
  refine y_getR (pc := 83) dX2_copyFrom_83 flX2_25 rfl rfl rfl hb ?_
  refine x_callSN (pc := 86) _ dX2_copyFrom_86 (ct_copyRow (n := 16) rfl rfl ha hb (by decide) (by decide) (by decide)) lkX2_70 rfl (by decide) (Nat.le_of_ble_eq_true rfl) rfl ?_
  refine x_nil (cpG_A hab) ?_
  refine x_aload_n (pc := 89) dX2_copyFrom_89 1 rfl ?_
  refine y_getR (pc := 90) dX2_copyFrom_90 flX2_28 rfl rfl rfl ha ?_
  refine x_aload_n (pc := 93) dX2_copyFrom_93 0 rfl ?_
  refine y_getR (pc := 94) dX2_copyFrom_94 flX2_28 rfl rfl rfl hb ?_
  refine x_callSN (pc := 97) _ dX2_copyFrom_97 (ct_copyRow (n := 192) rfl rfl ha hb (by decide) (by decide) (by decide)) lkX2_70 rfl (by decide) (Nat.le_of_ble_eq_true rfl) rfl ?_
  refine x_nil (cpG_A hab) ?_
  refine x_aload_n (pc := 100) dX2_copyFrom_100 1 rfl ?_
  refine y_getR (pc := 101) dX2_copyFrom_101 flX2_31 rfl rfl rfl ha ?_
  refine x_aload_n (pc := 104) dX2_copyFrom_104 0 rfl ?_
  refine y_getR (pc := 105) dX2_copyFrom_105 flX2_31 rfl rfl rfl hb ?_
  refine x_callSN (pc := 108) _ dX2_copyFrom_108 (ct_copyRow (n := 64) rfl rfl ha hb (by decide) (by decide) (by decide)) lkX2_70 rfl (by decide) (Nat.le_of_ble_eq_true rfl) rfl ?_
  refine x_nil (cpG_A hab) ?_
  refine x_aload_n (pc := 111) dX2_copyFrom_111 1 rfl ?_
  refine y_getR (pc := 112) dX2_copyFrom_112 flX2_34 rfl rfl rfl ha ?_
  refine x_aload_n (pc := 115) dX2_copyFrom_115 0 rfl ?_
  refine y_getR (pc := 116) dX2_copyFrom_116 flX2_34 rfl rfl rfl hb ?_
  refine x_callSN (pc := 119) _ dX2_copyFrom_119 (ct_copyRow (n := 8) rfl rfl ha hb (by decide) (by decide) (by decide)) lkX2_70 rfl (by decide) (Nat.le_of_ble_eq_true rfl) rfl ?_
  refine x_nil (cpG_A hab) ?_
  refine x_aload_n (pc := 122) dX2_copyFrom_122 1 rfl ?_
  refine y_getR (pc := 123) dX2_copyFrom_123 flX2_37 rfl rfl rfl ha ?_
  refine x_aload_n (pc := 126) dX2_copyFrom_126 0 rfl ?_
  refine y_getR (pc := 127) dX2_copyFrom_127 flX2_37 rfl rfl rfl hb ?_
  refine x_callSN (pc := 130) _ dX2_copyFrom_130 (ct_copyRow (n := 8) rfl rfl ha hb (by decide) (by decide) (by decide)) lkX2_70 rfl (by decide) (Nat.le_of_ble_eq_true rfl) rfl ?_
  refine x_nil (cpG_A hab) ?_
  refine x_aload_n (pc := 133) dX2_copyFrom_133 1 rfl ?_
  refine y_getR (pc := 134) dX2_copyFrom_134 flX2_40 rfl rfl rfl ha ?_
  refine x_aload_n (pc := 137) dX2_copyFrom_137 0 rfl ?_
  refine y_getR (pc := 138) dX2_copyFrom_138 flX2_40 rfl rfl rfl hb ?_
  refine x_callSN (pc := 141) _ dX2_copyFrom_141 (ct_copyRow (n := 8) rfl rfl ha hb (by decide) (by decide) (by decide)) lkX2_70 rfl (by decide) (Nat.le_of_ble_eq_true rfl) rfl ?_
  refine x_nil (cpG_A hab) ?_
  refine x_aload_n (pc := 144) dX2_copyFrom_144 1 rfl ?_
  refine y_getR (pc := 145) dX2_copyFrom_145 flX2_43 rfl rfl rfl ha ?_
  refine x_aload_n (pc := 148) dX2_copyFrom_148 0 rfl ?_
  refine y_getR (pc := 149) dX2_copyFrom_149 flX2_43 rfl rfl rfl hb ?_
  refine x_callSN (pc := 152) _ dX2_copyFrom_152 (ct_copyRow (n := 8) rfl rfl ha hb (by decide) (by decide) (by decide)) lkX2_70 rfl (by decide) (Nat.le_of_ble_eq_true rfl) rfl ?_
  refine x_nil (cpG_A hab) ?_
  refine x_aload_n (pc := 155) dX2_copyFrom_155 1 rfl ?_
  refine y_getR (pc := 156) dX2_copyFrom_156 flX2_46 rfl rfl rfl ha ?_
  refine x_aload_n (pc := 159) dX2_copyFrom_159 0 rfl ?_
  refine y_getR (pc := 160) dX2_copyFrom_160 flX2_46 rfl rfl rfl hb ?_
  refine x_callSN (pc := 163) _ dX2_copyFrom_163 (ct_copyRow (n := 8) rfl rfl ha hb (by decide) (by decide) (by decide)) lkX2_70 rfl (by decide) (Nat.le_of_ble_eq_true rfl) rfl ?_
  refine x_nil (cpG_A hab) ?_
  exact y_vret (pc := 166) dX2_copyFrom_166 rfl rfl
theorem ct_World_copyFrom {G : GG} {m : Mem} {a b : Nat} (ha : a < 5) (hb : b < 5) (hab : a ≠ b) (hpl : pl a ≠ pl b) : Ct G MX6_copyFrom (rmD 4) [rf G 33 b, rf G 33 a] (hp (m)) (.inl none) (hp (cpS (cpP m (pl a) (pl b)) a b)) := by
  refine x_entry (by decide +kernel) mwX6_copyFrom rfl (Nat.le_of_ble_eq_true rfl) ?_
  show X G MX6_copyFrom (rmD 4) 0 [(0, rf G 33 b), (1, rf G 33 a)] [] (hp (m)) 0 0 (.inl none) (hp (cpS (cpP m (pl a) (pl b)) a b))
  refine x_aload_n (pc := 0) dX6_copyFrom_0 0 rfl ?_
  refine y_getR (pc := 1) dX6_copyFrom_1 flX6_18 rfl rfl rfl hb ?_
  refine x_aload_n (pc := 4) dX6_copyFrom_4 1 rfl ?_
  refine y_getR (pc := 5) dX6_copyFrom_5 flX6_18 rfl rfl rfl ha ?_
  refine x_callV (pc := 8) _ dX6_copyFrom_8 (ct_Plan_copyFrom (pl_lt ha) (pl_lt hb) hpl) lkX6_22 rfl rfl rfl rfl (mem_dom0 (by decide) (pl_lt hb)) (by decide) (Nat.le_of_ble_eq_true rfl) rfl ?_
  refine x_aload_n (pc := 11) dX6_copyFrom_11 0 rfl ?_
  refine y_getR (pc := 12) dX6_copyFrom_12 flX6_12 rfl rfl rfl hb ?_
  refine x_aload_n (pc := 15) dX6_copyFrom_15 1 rfl ?_
  refine y_getR (pc := 16) dX6_copyFrom_16 flX6_12 rfl rfl rfl ha ?_
  refine x_callV (pc := 19) _ dX6_copyFrom_19 (ct_State_copyFrom (h13 ha) (h13 hb) hab) lkX6_28 rfl rfl rfl rfl (mem_dom0 (by decide) (h13 hb)) (by decide) (Nat.le_of_ble_eq_true rfl) rfl ?_
  exact y_vret (pc := 22) dX6_copyFrom_22 rfl rfl
