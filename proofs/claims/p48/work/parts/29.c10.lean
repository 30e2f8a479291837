theorem cpS_k {m : Mem} {a b k : Nat} (h : k ∉ inS) : cpS m a b k = m k := by
  funext i j
  show (if i = b ∧ k ∈ inS then _ else _) = _
  rw [if_neg (fun z => h z.2)]
theorem cpS_at {m : Mem} {a b k : Nat} (h : k ∈ inS) : cpS m a b k b = m k a := by
  funext j
  show (if b = b ∧ k ∈ inS then _ else _) = _
  rw [if_pos ⟨rfl, h⟩]
theorem cpS_i {m : Mem} {a b k i : Nat} (h : i ≠ b) : cpS m a b k i = m k i := by
  funext j
  show (if i = b ∧ k ∈ inS then _ else _) = _
  rw [if_neg (fun z => h z.1)]
theorem cpP_k {m : Mem} {a b k : Nat} (h : k ∉ inP) : cpP m a b k = m k := by
  funext i j
  show (if i = b ∧ k ∈ inP then _ else _) = _
  rw [if_neg (fun z => h z.2)]
theorem cpP_at {m : Mem} {a b k : Nat} (h : k ∈ inP) : cpP m a b k b = m k a := by
  funext j
  show (if b = b ∧ k ∈ inP then _ else _) = _
  rw [if_pos ⟨rfl, h⟩]
theorem cpP_i {m : Mem} {a b k i : Nat} (h : i ≠ b) : cpP m a b k i = m k i := by
  funext j
  show (if i = b ∧ k ∈ inP then _ else _) = _
  rw [if_neg (fun z => h z.1)]
/-- the class's small writers -/
def pushC (m : Mem) : Mem := up3 (up3 (cpS m 0 (5 + (m 36 0 1).toNat)) 36 0 1 ((m 36 0 1 + 1) % 8)) 36 0 0 (min (m 36 0 0 + 1) 8)
def popT (m : Mem) : Int := (m 36 0 1 + 8 - 1) % 8
def popC (m : Mem) : Mem := cpS (up3 (up3 m 36 0 1 (popT m)) 36 0 0 (m 36 0 0 - 1)) (5 + (popT m).toNat) 0
def clrP (m : Mem) (p : Nat) : Mem := fiA (fiA (up3 (up3 (up3 (up3 (up3 m 22 p 2 0) 22 p 3 0) 22 p 4 0) 22 p 5 0) 22 p 6 0) 26 p 0) 27 p (-1)
def clrS (m : Mem) (s : Nat) : Mem := up3 (up3 (up3 (up3 (up3 (up3 m 0 s 0 0) 0 s 1 0) 0 s 2 0) 0 s 3 0) 1 s 0 0) 2 s 0 0
def begP (m : Mem) (s : Nat) (q x : Int) : Mem := up3 (up3 (up3 (up3 m 3 s q x) 4 s q 0) 5 s q 0) 0 s 1 (m 0 s 1 + x)
def begC (m : Mem) (s : Nat) (c x y : Int) : Mem := up3 (up3 (up3 (up3 m 6 s c x) 7 s c y) 8 s c 0) 9 s c 0
def addP (m : Mem) (p : Nat) (x y : Int) : Mem := up3 (up3 (up3 m 23 p (m 22 p 2) x) 24 p (m 22 p 2) y) 22 p 2 (m 22 p 2 + 1)
def addB (m : Mem) (p : Nat) (a b : Int) : Mem := up3 (up3 (up3 m 27 p (a * 8 + b) (m 22 p 5)) 27 p (b * 8 + a) (m 22 p 5)) 22 p 5 (m 22 p 5 + 1)
def sunL (m : Mem) (p : Nat) (q g h : Int) : Nat → Mem
  | 0 => m
  | n + 1 => sunL (up3 m 26 p (q * 24 + h) (m 26 p (q * 24 + h) + g)) p q g (h + 1) n
def addU (m : Mem) (p : Nat) (q a b g : Int) : Mem := up3 (sunL m p q g a (b - a + 1).toNat) 22 p 4 (sunL m p q g a (b - a + 1).toNat 22 p 4 + 1)
def addT (m : Mem) (s : Nat) (q t x : Int) : Mem := up3 (up3 (up3 (up3 (up3 m 11 s (m 1 s 0) q) 12 s (m 1 s 0) t) 13 s (m 1 s 0) x) 14 s (m 1 s 0) 0) 1 s 0 (m 1 s 0 + 1)
def rmT1 (m : Mem) (s : Nat) (i : Int) : Mem := up3 (up3 (up3 (up3 m 11 s i (m 11 s (i + 1))) 12 s i (m 12 s (i + 1))) 13 s i (m 13 s (i + 1))) 14 s i (m 14 s (i + 1))
def rmTL (m : Mem) (s : Nat) (i : Int) : Nat → Mem
  | 0 => m
  | n + 1 => rmTL (rmT1 m s i) s (i + 1) n
def rmT (m : Mem) (s : Nat) (i : Int) : Mem := rmTL (up3 m 1 s 0 (m 1 s 0 - 1)) s i (m 1 s 0 - 1 - i).toNat
def addL (m : Mem) (s : Nat) (c x t : Int) : Mem := up3 (up3 (up3 (up3 (up3 (up3 (up3 (up3 m 15 s (m 2 s 0) c) 16 s (m 2 s 0) x) 17 s (m 2 s 0) 0) 18 s (m 2 s 0) 0) 19 s (m 2 s 0) 0) 20 s (m 2 s 0) 0) 21 s (m 2 s 0) t) 2 s 0 (m 2 s 0 + 1)
def brF (m : Mem) (s : Nat) (l t : Int) : Mem := if t < m 21 s l then up3 m 21 s l t else m
def hinC (m : Mem) (p s : Nat) (c x : Int) : Int := if m 10 s c ≠ 0 then 1 else if m 30 p c - x < sm (outC m p s c) (m 2 s 0).toNat then 2 else if m 3 s (m 28 p c) - m 5 s (m 28 p c) < x then 3 else if 16 ≤ m 2 s 0 then 4 else 0
def cosC (m : Mem) (p s : Nat) (c x : Int) : Int := intC m p (min 100000000 (wearC m p s (m 28 p c) x)) + (if m 27 p (m 28 p c * 8 + m 29 p c) = -1 then 0 else x * m 6 s (m 27 p (m 28 p c * 8 + m 29 p c)) / 1000)
theorem ct_Hclear {G : GG} {m : Mem} : Ct G MX0_clear (rmD 0) [rf G 36 0] (hp (m)) (.inl none) (hp (up3 m 36 0 0 0)) := by
  refine x_entry (by decide +kernel) mwX0_clear rfl (Nat.le_of_ble_eq_true rfl) ?_
  show X G MX0_clear (rmD 0) 0 [(0, rf G 36 0)] [] (hp (m)) 0 0 (.inl none) (hp (up3 m 36 0 0 0))
  refine x_aload_n (pc := 0) dX0_clear_0 0 rfl ?_
  refine x_iconst (pc := 1) dX0_clear_1 ?_
  refine y_putI (pc := 2) 0 dX0_clear_2 fwX0_18 rfl rfl rfl (by decide) ?_
  exact y_vret (pc := 5) dX0_clear_5 rfl rfl
theorem ct_push {G : GG} {m : Mem} (h0 : 0 ≤ m 36 0 0 ∧ m 36 0 0 ≤ 8) (h1 : 0 ≤ m 36 0 1 ∧ m 36 0 1 < 8) : Ct G MX0_push (rmD 4) [rf G 36 0, rf G 0 0] (hp (m)) (.inl none) (hp (pushC m)) := by
  refine x_entry (by decide +kernel) mwX0_push rfl (Nat.le_of_ble_eq_true rfl) ?_
  show X G MX0_push (rmD 4) 0 [(0, rf G 36 0), (1, rf G 0 0)] [] (hp (m)) 0 0 (.inl none) (hp (pushC m))
  refine x_aload_n (pc := 0) dX0_push_0 0 rfl ?_
  refine y_getR (pc := 1) dX0_push_1 flX0_11 rfl rfl rfl (by decide) ?_
  refine x_aload_n (pc := 4) dX0_push_4 0 rfl ?_
  refine y_getI (pc := 5) 1 dX0_push_5 flX0_22 rfl rfl rfl (by decide) ?_
  refine y_aald (pc := 8) (tag := 0) dX0_push_8 rfl rfl (by decide) (by omega) rfl ?_
  refine x_aload_n (pc := 9) dX0_push_9 1 rfl ?_
  refine x_callV (pc := 10) _ dX0_push_10 (ct_State_copyFrom (by decide) (by omega) (by omega)) lkX0_25 rfl rfl rfl rfl (mem_dom0 (by decide) (show 5 + (m 36 0 1).toNat < 13 by omega)) (by decide) (Nat.le_of_ble_eq_true rfl) rfl ?_
  have e1 : cpS m 0 (5 + (m 36 0 1).toNat) 36 = m 36 := cpS_k (by decide)
  have e10 : cpS m 0 (5 + (m 36 0 1).toNat) 36 0 1 = m 36 0 1 := by rw [e1]
  have e11 : cpS m 0 (5 + (m 36 0 1).toNat) 36 0 0 = m 36 0 0 := by rw [e1]
  refine x_aload_n (pc := 13) dX0_push_13 0 rfl ?_
  refine x_aload_n (pc := 14) dX0_push_14 0 rfl ?_
  refine y_getI (pc := 15) 1 dX0_push_15 flX0_22 rfl rfl rfl (by decide) ?_
  refine x_iconst (pc := 18) dX0_push_18 ?_
  refine x_iadd (pc := 19) dX0_push_19 ?_
  refine x_bipush (pc := 20) (z := 8) dX0_push_20 (by decide) ?_
  refine x_irem (pc := 22) dX0_push_22 (by omega) (by omega) ?_
  refine y_putI (pc := 23) 1 dX0_push_23 fwX0_22 rfl rfl rfl (by decide) ?_
  refine x_aload_n (pc := 26) dX0_push_26 0 rfl ?_
  refine x_aload_n (pc := 27) dX0_push_27 0 rfl ?_
  refine y_getI (pc := 28) 0 dX0_push_28 flX0_18 rfl rfl rfl (by decide) ?_
  refine x_iconst (pc := 31) dX0_push_31 ?_
  refine x_iadd (pc := 32) dX0_push_32 ?_
  refine x_bipush (pc := 33) (z := 8) dX0_push_33 (by decide) ?_
  refine x_min (pc := 35) dX0_push_35 lmX0_29 (by rw [up3_off (by decide)]; unfold inI; omega) (by unfold inI; omega) (by decide) (Nat.le_of_ble_eq_true rfl) (by decide) (by decide) ?_
  refine y_putI (pc := 38) 0 dX0_push_38 fwX0_18 rfl rfl rfl (by decide) ?_
  exact y_vret (pc := 41) dX0_push_41 rfl (by unfold pushC; rw [up3_off (by decide), e10, e11])
theorem ct_popInto {G : GG} {m : Mem} (h1 : 0 ≤ m 36 0 1 ∧ m 36 0 1 < 8) : Ct G MX0_popInto (rmD 4) [rf G 36 0, rf G 0 0] (hp (m)) (.inl none) (hp (popC m)) := by
  refine x_entry (by decide +kernel) mwX0_popInto rfl (Nat.le_of_ble_eq_true rfl) ?_
  show X G MX0_popInto (rmD 4) 0 [(0, rf G 36 0), (1, rf G 0 0)] [] (hp (m)) 0 0 (.inl none) (hp (popC m))
  have e1 : 0 ≤ popT m ∧ popT m < 8 := by unfold popT; omega
  refine x_aload_n (pc := 0) dX0_popInto_0 0 rfl ?_
  refine x_aload_n (pc := 1) dX0_popInto_1 0 rfl ?_
  refine y_getI (pc := 2) 1 dX0_popInto_2 flX0_22 rfl rfl rfl (by decide) ?_
  refine x_bipush (pc := 5) (z := 8) dX0_popInto_5 (by decide) ?_
  refine x_iadd (pc := 7) dX0_popInto_7 ?_
  refine x_iconst (pc := 8) dX0_popInto_8 ?_
  refine x_isub (pc := 9) dX0_popInto_9 ?_
  refine x_bipush (pc := 10) (z := 8) dX0_popInto_10 (by decide) ?_
  refine x_irem (pc := 12) dX0_popInto_12 (by omega) (by omega) ?_
  refine y_putI (pc := 13) 1 dX0_popInto_13 fwX0_22 rfl rfl rfl (by decide) ?_
  refine x_nil (m' := up3 m 36 0 1 (popT m)) rfl ?_
  refine x_aload_n (pc := 16) dX0_popInto_16 0 rfl ?_
  refine x_dup (pc := 17) dX0_popInto_17 rfl ?_
  refine y_getI (pc := 18) 0 dX0_popInto_18 flX0_18 rfl rfl rfl (by decide) ?_
  refine x_iconst (pc := 21) dX0_popInto_21 ?_
  refine x_isub (pc := 22) dX0_popInto_22 ?_
  refine y_putI (pc := 23) 0 dX0_popInto_23 fwX0_18 rfl rfl rfl (by decide) ?_
  refine x_nil (m' := up3 (up3 m 36 0 1 (popT m)) 36 0 0 (m 36 0 0 - 1)) rfl ?_
  have e2 : up3 (up3 m 36 0 1 (popT m)) 36 0 0 (m 36 0 0 - 1) 36 0 1 = popT m := rfl
  refine x_aload_n (pc := 26) dX0_popInto_26 1 rfl ?_
  refine x_aload_n (pc := 27) dX0_popInto_27 0 rfl ?_
  refine y_getR (pc := 28) dX0_popInto_28 flX0_11 rfl rfl rfl (by decide) ?_
  refine x_aload_n (pc := 31) dX0_popInto_31 0 rfl ?_
  refine y_getI (pc := 32) 1 dX0_popInto_32 flX0_22 rfl rfl rfl (by decide) ?_
  refine y_aald (pc := 35) (tag := 0) dX0_popInto_35 rfl rfl (by decide) (by omega) rfl ?_
  refine x_callV (pc := 36) _ dX0_popInto_36 (ct_State_copyFrom (by omega) (by decide) (by omega)) lkX0_25 rfl rfl rfl rfl (mem_dom0 (by decide) (by decide)) (by decide) (Nat.le_of_ble_eq_true rfl) rfl ?_
  exact y_vret (pc := 39) dX0_popInto_39 rfl rfl
theorem ct_Pclear {G : GG} {m : Mem} {p : Nat} (hp4 : p < 4) : Ct G MX2_clear (rmD 1) [rf G 22 p] (hp (m)) (.inl none) (hp (clrP m p)) := by
  refine x_entry (by decide +kernel) mwX2_clear rfl (Nat.le_of_ble_eq_true rfl) ?_
  show X G MX2_clear (rmD 1) 0 [(0, rf G 22 p)] [] (hp (m)) 0 0 (.inl none) (hp (clrP m p))
  refine x_aload_n (pc := 0) dX2_clear_0 0 rfl ?_
  refine x_iconst (pc := 1) dX2_clear_1 ?_
  refine y_putI (pc := 2) 2 dX2_clear_2 fwX2_55 rfl rfl rfl hp4 ?_
  refine x_aload_n (pc := 5) dX2_clear_5 0 rfl ?_
  refine x_iconst (pc := 6) dX2_clear_6 ?_
  refine y_putI (pc := 7) 3 dX2_clear_7 fwX2_58 rfl rfl rfl hp4 ?_
  refine x_aload_n (pc := 10) dX2_clear_10 0 rfl ?_
  refine x_iconst (pc := 11) dX2_clear_11 ?_
  refine y_putI (pc := 12) 4 dX2_clear_12 fwX2_61 rfl rfl rfl hp4 ?_
  refine x_aload_n (pc := 15) dX2_clear_15 0 rfl ?_
  refine x_iconst (pc := 16) dX2_clear_16 ?_
  refine y_putI (pc := 17) 5 dX2_clear_17 fwX2_64 rfl rfl rfl hp4 ?_
  refine x_aload_n (pc := 20) dX2_clear_20 0 rfl ?_
  refine x_iconst (pc := 21) dX2_clear_21 ?_
  refine y_putI (pc := 22) 6 dX2_clear_22 fwX2_67 rfl rfl rfl hp4 ?_
  refine x_aload_n (pc := 25) dX2_clear_25 0 rfl ?_
  refine y_getR (pc := 26) dX2_clear_26 flX2_28 rfl rfl rfl hp4 ?_
  refine x_iconst (pc := 29) dX2_clear_29 ?_
  refine x_callS (pc := 30) _ dX2_clear_30 (ct_fill (n := 192) rfl (by decide) (by decide) (show p < 4 by omega)) lkX2_49 rfl (by decide) (Nat.le_of_ble_eq_true rfl) rfl ?_
  refine x_aload_n (pc := 33) dX2_clear_33 0 rfl ?_
  refine y_getR (pc := 34) dX2_clear_34 flX2_31 rfl rfl rfl hp4 ?_
  refine x_iconst (pc := 37) dX2_clear_37 ?_
  refine x_callS (pc := 38) _ dX2_clear_38 (ct_fill (n := 64) rfl (by decide) (by decide) (show p < 4 by omega)) lkX2_49 rfl (by decide) (Nat.le_of_ble_eq_true rfl) rfl ?_
  exact y_vret (pc := 41) dX2_clear_41 rfl rfl
theorem ct_Sclear {G : GG} {m : Mem} {s : Nat} (hs : s < 13) : Ct G MX4_clear (rmD 0) [rf G 0 s] (hp (m)) (.inl none) (hp (clrS m s)) := by
  refine x_entry (by decide +kernel) mwX4_clear rfl (Nat.le_of_ble_eq_true rfl) ?_
  show X G MX4_clear (rmD 0) 0 [(0, rf G 0 s)] [] (hp (m)) 0 0 (.inl none) (hp (clrS m s))
  refine x_aload_n (pc := 0) dX4_clear_0 0 rfl ?_
  refine x_iconst (pc := 1) dX4_clear_1 ?_
  refine y_putI (pc := 2) 0 dX4_clear_2 fwX4_50 rfl rfl rfl hs ?_
  refine x_aload_n (pc := 5) dX4_clear_5 0 rfl ?_
  refine x_lconst (pc := 6) (z := 0) dX4_clear_6 (by decide) ?_
  refine y_putL (pc := 7) 1 dX4_clear_7 fwX4_54 rfl rfl rfl hs ?_
  refine x_aload_n (pc := 10) dX4_clear_10 0 rfl ?_
  refine x_lconst (pc := 11) (z := 0) dX4_clear_11 (by decide) ?_
  refine y_putL (pc := 12) 2 dX4_clear_12 fwX4_58 rfl rfl rfl hs ?_
  refine x_aload_n (pc := 15) dX4_clear_15 0 rfl ?_
  refine x_lconst (pc := 16) (z := 0) dX4_clear_16 (by decide) ?_
  refine y_putL (pc := 17) 3 dX4_clear_17 fwX4_61 rfl rfl rfl hs ?_
  refine x_aload_n (pc := 20) dX4_clear_20 0 rfl ?_
  refine y_getR (pc := 21) dX4_clear_21 flX4_39 rfl rfl rfl hs ?_
  refine x_iconst (pc := 24) dX4_clear_24 ?_
  refine y_putI (pc := 25) 0 dX4_clear_25 fwX4_64 rfl rfl rfl hs ?_
  refine x_aload_n (pc := 28) dX4_clear_28 0 rfl ?_
  refine y_getR (pc := 29) dX4_clear_29 flX4_46 rfl rfl rfl hs ?_
  refine x_iconst (pc := 32) dX4_clear_32 ?_
  refine y_putI (pc := 33) 0 dX4_clear_33 fwX4_67 rfl rfl rfl hs ?_
  exact y_vret (pc := 36) dX4_clear_36 rfl rfl
theorem ct_beginPack {G : GG} {m : Mem} {s : Nat} (hs : s < 13) (q x : Int) (hq : 0 ≤ q ∧ q < 8) (hx : inI x) : Ct G MX4_beginPack (rmD 0) [rf G 0 s, .int (iI q), .int (iI x)] (hp (m)) (.inl none) (hp (begP m s q x)) := by
  refine x_entry (by decide +kernel) mwX4_beginPack rfl (Nat.le_of_ble_eq_true rfl) ?_
  show X G MX4_beginPack (rmD 0) 0 [(0, rf G 0 s), (1, .int (iI q)), (2, .int (iI x))] [] (hp (m)) 0 0 (.inl none) (hp (begP m s q x))
  refine x_aload_n (pc := 0) dX4_beginPack_0 0 rfl ?_
  refine y_getR (pc := 1) dX4_beginPack_1 flX4_9 rfl rfl rfl hs ?_
  refine x_iload_n (pc := 4) dX4_beginPack_4 1 rfl ?_
  refine x_iload_n (pc := 5) dX4_beginPack_5 2 rfl ?_
  refine y_iast (pc := 6) dX4_beginPack_6 rfl hs (by omega) ?_
  refine x_aload_n (pc := 7) dX4_beginPack_7 0 rfl ?_
  refine y_getR (pc := 8) dX4_beginPack_8 flX4_15 rfl rfl rfl hs ?_
  refine x_iload_n (pc := 11) dX4_beginPack_11 1 rfl ?_
  refine x_iconst (pc := 12) dX4_beginPack_12 ?_
  refine y_iast (pc := 13) dX4_beginPack_13 rfl hs (by omega) ?_
  refine x_aload_n (pc := 14) dX4_beginPack_14 0 rfl ?_
  refine y_getR (pc := 15) dX4_beginPack_15 flX4_18 rfl rfl rfl hs ?_
  refine x_iload_n (pc := 18) dX4_beginPack_18 1 rfl ?_
  refine x_iconst (pc := 19) dX4_beginPack_19 ?_
  refine y_iast (pc := 20) dX4_beginPack_20 rfl hs (by omega) ?_
  refine x_aload_n (pc := 21) dX4_beginPack_21 0 rfl ?_
  refine x_dup (pc := 22) dX4_beginPack_22 rfl ?_
  refine y_getL (pc := 23) 1 dX4_beginPack_23 flX4_54 rfl rfl rfl hs ?_
  refine x_iload_n (pc := 26) dX4_beginPack_26 2 rfl ?_
  refine x_i2l (pc := 27) dX4_beginPack_27 hx ?_
  refine x_ladd (pc := 28) dX4_beginPack_28 ?_
  refine y_putL (pc := 29) 1 dX4_beginPack_29 fwX4_54 rfl rfl rfl hs ?_
  exact y_vret (pc := 32) dX4_beginPack_32 rfl rfl
theorem ct_beginCable {G : GG} {m : Mem} {s : Nat} (hs : s < 13) (c x y : Int) (hc : 0 ≤ c ∧ c < 12) : Ct G MX4_beginCable (rmD 0) [rf G 0 s, .int (iI c), .int (iI x), .int (iI y)] (hp (m)) (.inl none) (hp (begC m s c x y)) := by
  refine x_entry (by decide +kernel) mwX4_beginCable rfl (Nat.le_of_ble_eq_true rfl) ?_
  show X G MX4_beginCable (rmD 0) 0 [(0, rf G 0 s), (1, .int (iI c)), (2, .int (iI x)), (3, .int (iI y))] [] (hp (m)) 0 0 (.inl none) (hp (begC m s c x y))
  refine x_aload_n (pc := 0) dX4_beginCable_0 0 rfl ?_
  refine y_getR (pc := 1) dX4_beginCable_1 flX4_21 rfl rfl rfl hs ?_
  refine x_iload_n (pc := 4) dX4_beginCable_4 1 rfl ?_
  refine x_iload_n (pc := 5) dX4_beginCable_5 2 rfl ?_
  refine y_iast (pc := 6) dX4_beginCable_6 rfl hs (by omega) ?_
  refine x_aload_n (pc := 7) dX4_beginCable_7 0 rfl ?_
  refine y_getR (pc := 8) dX4_beginCable_8 flX4_24 rfl rfl rfl hs ?_
  refine x_iload_n (pc := 11) dX4_beginCable_11 1 rfl ?_
  refine x_iload_n (pc := 12) dX4_beginCable_12 3 rfl ?_
  refine y_iast (pc := 13) dX4_beginCable_13 rfl hs (by omega) ?_
  refine x_aload_n (pc := 14) dX4_beginCable_14 0 rfl ?_
  refine y_getR (pc := 15) dX4_beginCable_15 flX4_27 rfl rfl rfl hs ?_
  refine x_iload_n (pc := 18) dX4_beginCable_18 1 rfl ?_
  refine x_iconst (pc := 19) dX4_beginCable_19 ?_
  refine y_iast (pc := 20) dX4_beginCable_20 rfl hs (by omega) ?_
  refine x_aload_n (pc := 21) dX4_beginCable_21 0 rfl ?_
  refine y_getR (pc := 22) dX4_beginCable_22 flX4_30 rfl rfl rfl hs ?_
  refine x_iload_n (pc := 25) dX4_beginCable_25 1 rfl ?_
  refine x_iconst (pc := 26) dX4_beginCable_26 ?_
  refine y_iast (pc := 27) dX4_beginCable_27 rfl hs (by omega) ?_
  exact y_vret (pc := 28) dX4_beginCable_28 rfl rfl
theorem ct_addPack {G : GG} {m : Mem} {p : Nat} (hp4 : p < 4) (x y : Int) (hn : 0 ≤ m 22 p 2 ∧ m 22 p 2 < 8) : Ct G MX2_addPack (rmD 0) [rf G 22 p, .int (iI x), .int (iI y)] (hp (m)) (.inl none) (hp (addP m p x y)) := by
  refine x_entry (by decide +kernel) mwX2_addPack rfl (Nat.le_of_ble_eq_true rfl) ?_
  show X G MX2_addPack (rmD 0) 0 [(0, rf G 22 p), (1, .int (iI x)), (2, .int (iI y))] [] (hp (m)) 0 0 (.inl none) (hp (addP m p x y))
  refine x_aload_n (pc := 0) dX2_addPack_0 0 rfl ?_
  refine y_getR (pc := 1) dX2_addPack_1 flX2_18 rfl rfl rfl hp4 ?_
  refine x_aload_n (pc := 4) dX2_addPack_4 0 rfl ?_
  refine y_getI (pc := 5) 2 dX2_addPack_5 flX2_55 rfl rfl rfl hp4 ?_
  refine x_iload_n (pc := 8) dX2_addPack_8 1 rfl ?_
  refine y_iast (pc := 9) dX2_addPack_9 rfl hp4 (by omega) ?_
  refine x_nil (m' := up3 m 23 p (m 22 p 2) x) rfl ?_
  have e1 : up3 m 23 p (m 22 p 2) x 22 p 2 = m 22 p 2 := rfl
  refine x_aload_n (pc := 10) dX2_addPack_10 0 rfl ?_
  refine y_getR (pc := 11) dX2_addPack_11 flX2_22 rfl rfl rfl hp4 ?_
  refine x_aload_n (pc := 14) dX2_addPack_14 0 rfl ?_
  refine y_getI (pc := 15) 2 dX2_addPack_15 flX2_55 rfl rfl rfl hp4 ?_
  refine x_iload_n (pc := 18) dX2_addPack_18 2 rfl ?_
  refine y_iast (pc := 19) dX2_addPack_19 rfl hp4 (by omega) ?_
  refine x_aload_n (pc := 20) dX2_addPack_20 0 rfl ?_
  refine x_dup (pc := 21) dX2_addPack_21 rfl ?_
  refine y_getI (pc := 22) 2 dX2_addPack_22 flX2_55 rfl rfl rfl hp4 ?_
  refine x_iconst (pc := 25) dX2_addPack_25 ?_
  refine x_iadd (pc := 26) dX2_addPack_26 ?_
  refine y_putI (pc := 27) 2 dX2_addPack_27 fwX2_55 rfl rfl rfl hp4 ?_
  exact y_vret (pc := 30) dX2_addPack_30 rfl rfl
theorem ct_addCable {G : GG} {m : Mem} {p : Nat} (hp4 : p < 4) (a b : Int) (ha : 0 ≤ a ∧ a < 8) (hb : 0 ≤ b ∧ b < 8) : Ct G MX2_addCable (rmD 0) [rf G 22 p, .int (iI a), .int (iI b)] (hp (m)) (.inl none) (hp (addB m p a b)) := by
  refine x_entry (by decide +kernel) mwX2_addCable rfl (Nat.le_of_ble_eq_true rfl) ?_
  show X G MX2_addCable (rmD 0) 0 [(0, rf G 22 p), (1, .int (iI a)), (2, .int (iI b))] [] (hp (m)) 0 0 (.inl none) (hp (addB m p a b))
  refine x_aload_n (pc := 0) dX2_addCable_0 0 rfl ?_
  refine y_getR (pc := 1) dX2_addCable_1 flX2_31 rfl rfl rfl hp4 ?_
  refine x_iload_n (pc := 4) dX2_addCable_4 1 rfl ?_
  refine x_bipush (pc := 5) (z := 8) dX2_addCable_5 (by decide) ?_
  refine x_imul (pc := 7) dX2_addCable_7 ?_
  refine x_iload_n (pc := 8) dX2_addCable_8 2 rfl ?_
  refine x_iadd (pc := 9) dX2_addCable_9 ?_
  refine x_aload_n (pc := 10) dX2_addCable_10 0 rfl ?_
  refine y_getI (pc := 11) 5 dX2_addCable_11 flX2_64 rfl rfl rfl hp4 ?_
  refine y_iast (pc := 14) dX2_addCable_14 rfl hp4 (by omega) ?_
  refine x_aload_n (pc := 15) dX2_addCable_15 0 rfl ?_
  refine y_getR (pc := 16) dX2_addCable_16 flX2_31 rfl rfl rfl hp4 ?_
  refine x_iload_n (pc := 19) dX2_addCable_19 2 rfl ?_
  refine x_bipush (pc := 20) (z := 8) dX2_addCable_20 (by decide) ?_
  refine x_imul (pc := 22) dX2_addCable_22 ?_
  refine x_iload_n (pc := 23) dX2_addCable_23 1 rfl ?_
  refine x_iadd (pc := 24) dX2_addCable_24 ?_
  refine x_aload_n (pc := 25) dX2_addCable_25 0 rfl ?_
  refine y_getI (pc := 26) 5 dX2_addCable_26 flX2_64 rfl rfl rfl hp4 ?_
  refine y_iast (pc := 29) dX2_addCable_29 rfl hp4 (by omega) ?_
  refine x_aload_n (pc := 30) dX2_addCable_30 0 rfl ?_
  refine x_dup (pc := 31) dX2_addCable_31 rfl ?_
  refine y_getI (pc := 32) 5 dX2_addCable_32 flX2_64 rfl rfl rfl hp4 ?_
  refine x_iconst (pc := 35) dX2_addCable_35 ?_
  refine x_iadd (pc := 36) dX2_addCable_36 ?_
  refine y_putI (pc := 37) 5 dX2_addCable_37 fwX2_64 rfl rfl rfl hp4 ?_
  exact y_vret (pc := 40) dX2_addCable_40 rfl rfl
theorem lp_addSun {G : GG} {p : Nat} (hp4 : p < 4) (q a b g : Int) (hq : 0 ≤ q ∧ q < 8) (hb : b < 24) (m9 : Mem) : ∀ (n : Nat) (m : Mem) (h : Int), 0 ≤ h → h ≤ b + 1 → h + n = b + 1 → m9 = sunL m p q g h n → X G MX2_addSun (rmD 0) 3 [(5, .int (iI h)), (0, rf G 22 p), (1, .int (iI q)), (2, .int (iI a)), (3, .int (iI b)), (4, .int (iI g))] [] (hp (m)) 0 0 (.inl none) (hp (up3 m9 22 p 4 (m9 22 p 4 + 1))) := by
  intro n
  induction n with
  | zero =>
    intro m h h0 h1 h2 h9
    refine x_iload (pc := 3) dX2_addSun_3 0 rfl ?_
    refine x_iload_n (pc := 5) dX2_addSun_5 4 rfl ?_
    refine x_icmp_gt (pc := 6) 32 dX2_addSun_6 (by decide) (by unfold inI; omega) (by unfold inI; omega) (fun c_6 => ?_) (fun c_6 => (by exfalso; omega))
    refine x_aload_n (pc := 32) dX2_addSun_32 1 rfl ?_
    refine x_dup (pc := 33) dX2_addSun_33 rfl ?_
    refine y_getI (pc := 34) 4 dX2_addSun_34 flX2_61 rfl rfl rfl hp4 ?_
    refine x_iconst (pc := 37) dX2_addSun_37 ?_
    refine x_iadd (pc := 38) dX2_addSun_38 ?_
    refine y_putI (pc := 39) 4 dX2_addSun_39 fwX2_61 rfl rfl rfl hp4 ?_
    exact y_vret (pc := 42) dX2_addSun_42 rfl (by rw [h9]; rfl)
  | succ n ih =>
    intro m h h0 h1 h2 h9
    refine x_iload (pc := 3) dX2_addSun_3 0 rfl ?_
    refine x_iload_n (pc := 5) dX2_addSun_5 4 rfl ?_
    refine x_icmp_gt (pc := 6) 32 dX2_addSun_6 (by decide) (by unfold inI; omega) (by unfold inI; omega) (fun c_6 => (by exfalso; omega)) (fun c_6 => ?_)
    refine x_aload_n (pc := 9) dX2_addSun_9 1 rfl ?_
    refine y_getR (pc := 10) dX2_addSun_10 flX2_28 rfl rfl rfl hp4 ?_
    refine x_iload_n (pc := 13) dX2_addSun_13 2 rfl ?_
    refine x_bipush (pc := 14) (z := 24) dX2_addSun_14 (by decide) ?_
    refine x_imul (pc := 16) dX2_addSun_16 ?_
    refine x_iload (pc := 17) dX2_addSun_17 0 rfl ?_
    refine x_iadd (pc := 19) dX2_addSun_19 ?_
    refine x_dup2 (pc := 20) dX2_addSun_20 rfl rfl ?_
    refine y_iald (pc := 21) dX2_addSun_21 rfl hp4 (by omega) ?_
    refine x_iload (pc := 22) dX2_addSun_22 5 rfl ?_
    refine x_iadd (pc := 24) dX2_addSun_24 ?_
    refine y_iast (pc := 25) dX2_addSun_25 rfl hp4 (by omega) ?_
    refine x_iinc (pc := 26) (lv' := [(5, _), (0, _), (1, _), (2, _), (3, _), (4, _)]) dX2_addSun_26 0 rfl (by decide) rfl ?_
    refine x_goto (pc := 29) 3 dX2_addSun_29 (by decide) ?_
    exact x_lv [0, 1, 2, 3, 4, 5] rfl (ih _ (h + 1) (by omega) (by omega) (by omega) (by rw [h9]; rfl))
theorem ct_addSun {G : GG} {m : Mem} {p : Nat} (hp4 : p < 4) (q a b g : Int) (hq : 0 ≤ q ∧ q < 8) (ha : 0 ≤ a ∧ a ≤ b) (hb : b < 24) : Ct G MX2_addSun (rmD 0) [rf G 22 p, .int (iI q), .int (iI a), .int (iI b), .int (iI g)] (hp (m)) (.inl none) (hp (addU m p q a b g)) := by
  refine x_entry (by decide +kernel) mwX2_addSun rfl (Nat.le_of_ble_eq_true rfl) ?_
  show X G MX2_addSun (rmD 0) 0 [(0, rf G 22 p), (1, .int (iI q)), (2, .int (iI a)), (3, .int (iI b)), (4, .int (iI g))] [] (hp (m)) 0 0 (.inl none) (hp (addU m p q a b g))
  refine x_iload_n (pc := 0) dX2_addSun_0 2 rfl ?_
  refine x_istore (pc := 1) (lv' := [(5, _), (0, _), (1, _), (2, _), (3, _), (4, _)]) dX2_addSun_1 (by decide) rfl ?_
  exact x_lv [0, 1, 2, 3, 4, 5] rfl (lp_addSun hp4 q a b g hq hb _ (b - a + 1).toNat m a (by omega) (by omega) (by omega) rfl)
theorem ct_addT {G : GG} {m : Mem} {s : Nat} (hs : s < 13) (q t x : Int) (hn : 0 ≤ m 1 s 0 ∧ m 1 s 0 < 16) : Ct G MX5_add (rmD 0) [rf G 1 s, .int (iI q), .int (iI t), .int (iI x)] (hp (m)) (.inl (some (.int (iI (m 1 s 0))))) (hp (addT m s q t x)) := by
  refine x_entry (by decide +kernel) mwX5_add rfl (Nat.le_of_ble_eq_true rfl) ?_
  show X G MX5_add (rmD 0) 0 [(0, rf G 1 s), (1, .int (iI q)), (2, .int (iI t)), (3, .int (iI x))] [] (hp (m)) 0 0 (.inl (some (.int (iI (m 1 s 0))))) (hp (addT m s q t x))
  refine x_aload_n (pc := 0) dX5_add_0 0 rfl ?_
  refine y_getR (pc := 1) dX5_add_1 flX5_9 rfl rfl rfl hs ?_
  refine x_aload_n (pc := 4) dX5_add_4 0 rfl ?_
  refine y_getI (pc := 5) 0 dX5_add_5 flX5_24 rfl rfl rfl hs ?_
  refine x_iload_n (pc := 8) dX5_add_8 1 rfl ?_
  refine y_iast (pc := 9) dX5_add_9 rfl hs (by omega) ?_
  refine x_nil (m' := up3 m 11 s (m 1 s 0) q) rfl ?_
  have e1 : up3 m 11 s (m 1 s 0) q 1 s 0 = m 1 s 0 := rfl
  refine x_aload_n (pc := 10) dX5_add_10 0 rfl ?_
  refine y_getR (pc := 11) dX5_add_11 flX5_15 rfl rfl rfl hs ?_
  refine x_aload_n (pc := 14) dX5_add_14 0 rfl ?_
  refine y_getI (pc := 15) 0 dX5_add_15 flX5_24 rfl rfl rfl hs ?_
  refine x_iload_n (pc := 18) dX5_add_18 2 rfl ?_
  refine y_iast (pc := 19) dX5_add_19 rfl hs (by omega) ?_
  refine x_nil (m' := up3 (up3 m 11 s (m 1 s 0) q) 12 s (m 1 s 0) t) rfl ?_
  have e2 : up3 (up3 m 11 s (m 1 s 0) q) 12 s (m 1 s 0) t 1 s 0 = m 1 s 0 := rfl
  refine x_aload_n (pc := 20) dX5_add_20 0 rfl ?_
  refine y_getR (pc := 21) dX5_add_21 flX5_18 rfl rfl rfl hs ?_
  refine x_aload_n (pc := 24) dX5_add_24 0 rfl ?_
  refine y_getI (pc := 25) 0 dX5_add_25 flX5_24 rfl rfl rfl hs ?_
  refine x_iload_n (pc := 28) dX5_add_28 3 rfl ?_
  refine y_iast (pc := 29) dX5_add_29 rfl hs (by omega) ?_
  refine x_nil (m' := up3 (up3 (up3 m 11 s (m 1 s 0) q) 12 s (m 1 s 0) t) 13 s (m 1 s 0) x) rfl ?_
  have e3 : up3 (up3 (up3 m 11 s (m 1 s 0) q) 12 s (m 1 s 0) t) 13 s (m 1 s 0) x 1 s 0 = m 1 s 0 := rfl
  refine x_aload_n (pc := 30) dX5_add_30 0 rfl ?_
  refine y_getR (pc := 31) dX5_add_31 flX5_21 rfl rfl rfl hs ?_
  refine x_aload_n (pc := 34) dX5_add_34 0 rfl ?_
  refine y_getI (pc := 35) 0 dX5_add_35 flX5_24 rfl rfl rfl hs ?_
  refine x_iconst (pc := 38) dX5_add_38 ?_
  refine y_iast (pc := 39) dX5_add_39 rfl hs (by omega) ?_
  refine x_aload_n (pc := 40) dX5_add_40 0 rfl ?_
  refine x_dup (pc := 41) dX5_add_41 rfl ?_
  refine y_getI (pc := 42) 0 dX5_add_42 flX5_24 rfl rfl rfl hs ?_
  refine x_dup_x1 (pc := 45) dX5_add_45 rfl rfl ?_
  refine x_iconst (pc := 46) dX5_add_46 ?_
  refine x_iadd (pc := 47) dX5_add_47 ?_
  refine y_putI (pc := 48) 0 dX5_add_48 fwX5_24 rfl rfl rfl hs ?_
  exact y_iret (pc := 51) dX5_add_51 rfl rfl rfl
theorem lp_rmT {G : GG} {s : Nat} (hs : s < 13) (t : Int) (m9 : Mem) : ∀ (n : Nat) (m : Mem) (i : Int), 0 ≤ i → m 1 s 0 < 16 → i + n = m 1 s 0 → m9 = rmTL m s i n → X G MX5_remove (rmD 0) 12 [(2, .int (iI i)), (0, rf G 1 s), (1, .int (iI t))] [] (hp (m)) 0 0 (.inl none) (hp (m9)) := by
  intro n
  induction n with
  | zero =>
    intro m i h0 h1 h2 h9
    refine x_iload_n (pc := 12) dX5_remove_12 0 rfl ?_
    refine x_aload_n (pc := 13) dX5_remove_13 1 rfl ?_
    refine y_getI (pc := 14) 0 dX5_remove_14 flX5_24 rfl rfl rfl hs ?_
    refine x_icmp_ge (pc := 17) 82 dX5_remove_17 (by decide) (by unfold inI; omega) (by unfold inI; omega) (fun c_17 => ?_) (fun c_17 => (by exfalso; omega))
    exact y_vret (pc := 82) dX5_remove_82 rfl (by rw [h9]; rfl)
  | succ n ih =>
    intro m i h0 h1 h2 h9
    refine x_iload_n (pc := 12) dX5_remove_12 0 rfl ?_
    refine x_aload_n (pc := 13) dX5_remove_13 1 rfl ?_
    refine y_getI (pc := 14) 0 dX5_remove_14 flX5_24 rfl rfl rfl hs ?_
    refine x_icmp_ge (pc := 17) 82 dX5_remove_17 (by decide) (by unfold inI; omega) (by unfold inI; omega) (fun c_17 => (by exfalso; omega)) (fun c_17 => ?_)
    refine x_aload_n (pc := 20) dX5_remove_20 1 rfl ?_
    refine y_getR (pc := 21) dX5_remove_21 flX5_9 rfl rfl rfl hs ?_
    refine x_iload_n (pc := 24) dX5_remove_24 0 rfl ?_
    refine x_aload_n (pc := 25) dX5_remove_25 1 rfl ?_
    refine y_getR (pc := 26) dX5_remove_26 flX5_9 rfl rfl rfl hs ?_
    refine x_iload_n (pc := 29) dX5_remove_29 0 rfl ?_
    refine x_iconst (pc := 30) dX5_remove_30 ?_
    refine x_iadd (pc := 31) dX5_remove_31 ?_
    refine y_iald (pc := 32) dX5_remove_32 rfl hs (by omega) ?_
    refine y_iast (pc := 33) dX5_remove_33 rfl hs (by omega) ?_
    refine x_nil (m' := up3 m 11 s i (m 11 s (i + 1))) rfl ?_
    refine x_aload_n (pc := 34) dX5_remove_34 1 rfl ?_
    refine y_getR (pc := 35) dX5_remove_35 flX5_15 rfl rfl rfl hs ?_
    refine x_iload_n (pc := 38) dX5_remove_38 0 rfl ?_
    refine x_aload_n (pc := 39) dX5_remove_39 1 rfl ?_
    refine y_getR (pc := 40) dX5_remove_40 flX5_15 rfl rfl rfl hs ?_
    refine x_iload_n (pc := 43) dX5_remove_43 0 rfl ?_
    refine x_iconst (pc := 44) dX5_remove_44 ?_
    refine x_iadd (pc := 45) dX5_remove_45 ?_
    refine y_iald (pc := 46) dX5_remove_46 rfl hs (by omega) ?_
    refine y_iast (pc := 47) dX5_remove_47 rfl hs (by omega) ?_
    refine x_nil (m' := up3 (up3 m 11 s i (m 11 s (i + 1))) 12 s i (m 12 s (i + 1))) rfl ?_
    refine x_aload_n (pc := 48) dX5_remove_48 1 rfl ?_
    refine y_getR (pc := 49) dX5_remove_49 flX5_18 rfl rfl rfl hs ?_
    refine x_iload_n (pc := 52) dX5_remove_52 0 rfl ?_
    refine x_aload_n (pc := 53) dX5_remove_53 1 rfl ?_
    refine y_getR (pc := 54) dX5_remove_54 flX5_18 rfl rfl rfl hs ?_
    refine x_iload_n (pc := 57) dX5_remove_57 0 rfl ?_
    refine x_iconst (pc := 58) dX5_remove_58 ?_
    refine x_iadd (pc := 59) dX5_remove_59 ?_
    refine y_iald (pc := 60) dX5_remove_60 rfl hs (by omega) ?_
    refine y_iast (pc := 61) dX5_remove_61 rfl hs (by omega) ?_
    refine x_nil (m' := up3 (up3 (up3 m 11 s i (m 11 s (i + 1))) 12 s i (m 12 s (i + 1))) 13 s i (m 13 s (i + 1))) rfl ?_
    refine x_aload_n (pc := 62) dX5_remove_62 1 rfl ?_
    refine y_getR (pc := 63) dX5_remove_63 flX5_21 rfl rfl rfl hs ?_
    refine x_iload_n (pc := 66) dX5_remove_66 0 rfl ?_
    refine x_aload_n (pc := 67) dX5_remove_67 1 rfl ?_
    refine y_getR (pc := 68) dX5_remove_68 flX5_21 rfl rfl rfl hs ?_
    refine x_iload_n (pc := 71) dX5_remove_71 0 rfl ?_
    refine x_iconst (pc := 72) dX5_remove_72 ?_
    refine x_iadd (pc := 73) dX5_remove_73 ?_
    refine y_iald (pc := 74) dX5_remove_74 rfl hs (by omega) ?_
    refine y_iast (pc := 75) dX5_remove_75 rfl hs (by omega) ?_
    refine x_nil (m' := rmT1 m s i) rfl ?_
    refine x_iinc (pc := 76) (lv' := [(2, _), (0, _), (1, _)]) dX5_remove_76 0 rfl (by decide) rfl ?_
    refine x_goto (pc := 79) 12 dX5_remove_79 (by decide) ?_
    exact x_lv [0, 1, 2] rfl (ih _ (i + 1) (by omega) h1 (by show i + 1 + _ = m 1 s 0; omega) (by rw [h9]; rfl))
theorem ct_rmT {G : GG} {m : Mem} {s : Nat} (hs : s < 13) (t : Int) (ht : 0 ≤ t ∧ t < m 1 s 0) (hn : m 1 s 0 ≤ 16) : Ct G MX5_remove (rmD 0) [rf G 1 s, .int (iI t)] (hp (m)) (.inl none) (hp (rmT m s t)) := by
  refine x_entry (by decide +kernel) mwX5_remove rfl (Nat.le_of_ble_eq_true rfl) ?_
  show X G MX5_remove (rmD 0) 0 [(0, rf G 1 s), (1, .int (iI t))] [] (hp (m)) 0 0 (.inl none) (hp (rmT m s t))
  refine x_aload_n (pc := 0) dX5_remove_0 0 rfl ?_
  refine x_dup (pc := 1) dX5_remove_1 rfl ?_
  refine y_getI (pc := 2) 0 dX5_remove_2 flX5_24 rfl rfl rfl hs ?_
  refine x_iconst (pc := 5) dX5_remove_5 ?_
  refine x_isub (pc := 6) dX5_remove_6 ?_
  refine y_putI (pc := 7) 0 dX5_remove_7 fwX5_24 rfl rfl rfl hs ?_
  refine x_iload_n (pc := 10) dX5_remove_10 1 rfl ?_
  refine x_istore_n (pc := 11) (lv' := [(2, _), (0, _), (1, _)]) dX5_remove_11 rfl (by decide) rfl ?_
  have e1 : up3 m 1 s 0 (m 1 s 0 - 1) 1 s 0 = m 1 s 0 - 1 := up3_at
  exact x_lv [0, 1, 2] rfl (lp_rmT hs t _ (m 1 s 0 - 1 - t).toNat _ t (by omega) (by rw [e1]; omega) (by rw [e1]; omega) rfl)
theorem ct_addL {G : GG} {m : Mem} {s : Nat} (hs : s < 13) (c x t : Int) (hn : 0 ≤ m 2 s 0 ∧ m 2 s 0 < 16) : Ct G MX1_add (rmD 0) [rf G 2 s, .int (iI c), .int (iI x), .int (iI t)] (hp (m)) (.inl (some (.int (iI (m 2 s 0))))) (hp (addL m s c x t)) := by
  refine x_entry (by decide +kernel) mwX1_add rfl (Nat.le_of_ble_eq_true rfl) ?_
  show X G MX1_add (rmD 0) 0 [(0, rf G 2 s), (1, .int (iI c)), (2, .int (iI x)), (3, .int (iI t))] [] (hp (m)) 0 0 (.inl (some (.int (iI (m 2 s 0))))) (hp (addL m s c x t))
  refine x_aload_n (pc := 0) dX1_add_0 0 rfl ?_
  refine y_getR (pc := 1) dX1_add_1 flX1_9 rfl rfl rfl hs ?_
  refine x_aload_n (pc := 4) dX1_add_4 0 rfl ?_
  refine y_getI (pc := 5) 0 dX1_add_5 flX1_33 rfl rfl rfl hs ?_
  refine x_iload_n (pc := 8) dX1_add_8 1 rfl ?_
  refine y_iast (pc := 9) dX1_add_9 rfl hs (by omega) ?_
  refine x_nil (m' := up3 m 15 s (m 2 s 0) c) rfl ?_
  have e0 : (up3 m 15 s (m 2 s 0) c) 2 s 0 = m 2 s 0 := rfl
  refine x_aload_n (pc := 10) dX1_add_10 0 rfl ?_
  refine y_getR (pc := 11) dX1_add_11 flX1_15 rfl rfl rfl hs ?_
  refine x_aload_n (pc := 14) dX1_add_14 0 rfl ?_
  refine y_getI (pc := 15) 0 dX1_add_15 flX1_33 rfl rfl rfl hs ?_
  refine x_iload_n (pc := 18) dX1_add_18 2 rfl ?_
  refine y_iast (pc := 19) dX1_add_19 rfl hs (by omega) ?_
  refine x_nil (m' := up3 (up3 m 15 s (m 2 s 0) c) 16 s (m 2 s 0) x) rfl ?_
  have e1 : (up3 (up3 m 15 s (m 2 s 0) c) 16 s (m 2 s 0) x) 2 s 0 = m 2 s 0 := rfl
  refine x_aload_n (pc := 20) dX1_add_20 0 rfl ?_
  refine y_getR (pc := 21) dX1_add_21 flX1_18 rfl rfl rfl hs ?_
  refine x_aload_n (pc := 24) dX1_add_24 0 rfl ?_
  refine y_getI (pc := 25) 0 dX1_add_25 flX1_33 rfl rfl rfl hs ?_
  refine x_iconst (pc := 28) dX1_add_28 ?_
  refine y_iast (pc := 29) dX1_add_29 rfl hs (by omega) ?_
  refine x_nil (m' := up3 (up3 (up3 m 15 s (m 2 s 0) c) 16 s (m 2 s 0) x) 17 s (m 2 s 0) 0) rfl ?_
  have e2 : (up3 (up3 (up3 m 15 s (m 2 s 0) c) 16 s (m 2 s 0) x) 17 s (m 2 s 0) 0) 2 s 0 = m 2 s 0 := rfl
  refine x_aload_n (pc := 30) dX1_add_30 0 rfl ?_
  refine y_getR (pc := 31) dX1_add_31 flX1_21 rfl rfl rfl hs ?_
  refine x_aload_n (pc := 34) dX1_add_34 0 rfl ?_
  refine y_getI (pc := 35) 0 dX1_add_35 flX1_33 rfl rfl rfl hs ?_
  refine x_iconst (pc := 38) dX1_add_38 ?_
  refine y_iast (pc := 39) dX1_add_39 rfl hs (by omega) ?_
  refine x_nil (m' := up3 (up3 (up3 (up3 m 15 s (m 2 s 0) c) 16 s (m 2 s 0) x) 17 s (m 2 s 0) 0) 18 s (m 2 s 0) 0) rfl ?_
  have e3 : (up3 (up3 (up3 (up3 m 15 s (m 2 s 0) c) 16 s (m 2 s 0) x) 17 s (m 2 s 0) 0) 18 s (m 2 s 0) 0) 2 s 0 = m 2 s 0 := rfl
  refine x_aload_n (pc := 40) dX1_add_40 0 rfl ?_
  refine y_getR (pc := 41) dX1_add_41 flX1_24 rfl rfl rfl hs ?_
  refine x_aload_n (pc := 44) dX1_add_44 0 rfl ?_
  refine y_getI (pc := 45) 0 dX1_add_45 flX1_33 rfl rfl rfl hs ?_
  refine x_iconst (pc := 48) dX1_add_48 ?_
  refine y_iast (pc := 49) dX1_add_49 rfl hs (by omega) ?_
  refine x_nil (m' := up3 (up3 (up3 (up3 (up3 m 15 s (m 2 s 0) c) 16 s (m 2 s 0) x) 17 s (m 2 s 0) 0) 18 s (m 2 s 0) 0) 19 s (m 2 s 0) 0) rfl ?_
  have e4 : (up3 (up3 (up3 (up3 (up3 m 15 s (m 2 s 0) c) 16 s (m 2 s 0) x) 17 s (m 2 s 0) 0) 18 s (m 2 s 0) 0) 19 s (m 2 s 0) 0) 2 s 0 = m 2 s 0 := rfl
  refine x_aload_n (pc := 50) dX1_add_50 0 rfl ?_
  refine y_getR (pc := 51) dX1_add_51 flX1_27 rfl rfl rfl hs ?_
  refine x_aload_n (pc := 54) dX1_add_54 0 rfl ?_
  refine y_getI (pc := 55) 0 dX1_add_55 flX1_33 rfl rfl rfl hs ?_
  refine x_iconst (pc := 58) dX1_add_58 ?_
  refine y_iast (pc := 59) dX1_add_59 rfl hs (by omega) ?_
  refine x_nil (m' := up3 (up3 (up3 (up3 (up3 (up3 m 15 s (m 2 s 0) c) 16 s (m 2 s 0) x) 17 s (m 2 s 0) 0) 18 s (m 2 s 0) 0) 19 s (m 2 s 0) 0) 20 s (m 2 s 0) 0) rfl ?_
  have e5 : (up3 (up3 (up3 (up3 (up3 (up3 m 15 s (m 2 s 0) c) 16 s (m 2 s 0) x) 17 s (m 2 s 0) 0) 18 s (m 2 s 0) 0) 19 s (m 2 s 0) 0) 20 s (m 2 s 0) 0) 2 s 0 = m 2 s 0 := rfl
  refine x_aload_n (pc := 60) dX1_add_60 0 rfl ?_
  refine y_getR (pc := 61) dX1_add_61 flX1_30 rfl rfl rfl hs ?_
  refine x_aload_n (pc := 64) dX1_add_64 0 rfl ?_
  refine y_getI (pc := 65) 0 dX1_add_65 flX1_33 rfl rfl rfl hs ?_
  refine x_iload_n (pc := 68) dX1_add_68 3 rfl ?_
  refine y_iast (pc := 69) dX1_add_69 rfl hs (by omega) ?_
  refine x_aload_n (pc := 70) dX1_add_70 0 rfl ?_
  refine x_dup (pc := 71) dX1_add_71 rfl ?_
  refine y_getI (pc := 72) 0 dX1_add_72 flX1_33 rfl rfl rfl hs ?_
  refine x_dup_x1 (pc := 75) dX1_add_75 rfl rfl ?_
  refine x_iconst (pc := 76) dX1_add_76 ?_
  refine x_iadd (pc := 77) dX1_add_77 ?_
  refine y_putI (pc := 78) 0 dX1_add_78 fwX1_33 rfl rfl rfl hs ?_
  exact y_iret (pc := 81) dX1_add_81 rfl rfl rfl
theorem ct_bringForward {G : GG} {m : Mem} {s : Nat} (hs : s < 13) (l t : Int) (hl : 0 ≤ l ∧ l < 16) (ht : inI t) (hd : inI (m 21 s l)) : Ct G MX1_bringForward (rmD 0) [rf G 2 s, .int (iI l), .int (iI t)] (hp (m)) (.inl none) (hp (brF m s l t)) := by
  refine x_entry (by decide +kernel) mwX1_bringForward rfl (Nat.le_of_ble_eq_true rfl) ?_
  show X G MX1_bringForward (rmD 0) 0 [(0, rf G 2 s), (1, .int (iI l)), (2, .int (iI t))] [] (hp (m)) 0 0 (.inl none) (hp (brF m s l t))
  refine x_iload_n (pc := 0) dX1_bringForward_0 2 rfl ?_
  refine x_aload_n (pc := 1) dX1_bringForward_1 0 rfl ?_
  refine y_getR (pc := 2) dX1_bringForward_2 flX1_30 rfl rfl rfl hs ?_
  refine x_iload_n (pc := 5) dX1_bringForward_5 1 rfl ?_
  refine y_iald (pc := 6) dX1_bringForward_6 rfl hs (by omega) ?_
  refine x_icmp_ge (pc := 7) 17 dX1_bringForward_7 (by decide) ht hd (fun c_7 => ?_) (fun c_7 => ?_)
  · exact y_vret (pc := 17) dX1_bringForward_17 rfl (by unfold brF; rw [if_neg (by omega)])
  · refine x_aload_n (pc := 10) dX1_bringForward_10 0 rfl ?_
    refine y_getR (pc := 11) dX1_bringForward_11 flX1_30 rfl rfl rfl hs ?_
    refine x_iload_n (pc := 14) dX1_bringForward_14 1 rfl ?_
    refine x_iload_n (pc := 15) dX1_bringForward_15 2 rfl ?_
    refine y_iast (pc := 16) dX1_bringForward_16 rfl hs (by omega) ?_
    exact y_vret (pc := 17) dX1_bringForward_17 rfl (by unfold brF; rw [if_pos (by omega)])
theorem ct_hindranceOf {G : GG} {m : Mem} {w : Nat} (hw : w < 5) (c x : Int) (hP : BP m (pl w)) (hB : BS m (pl w) w) (hc : 0 ≤ c ∧ c < m 22 (pl w) 6) (hx : 0 ≤ x ∧ x ≤ 1000000) : Ct G MX6_hindranceOf (rmD 3) [rf G 33 w, .int (iI c), .int (iI x)] (hp (m)) (.inl (some (.int (iI (hinC m (pl w) w c x))))) (hp (m)) := by
  refine x_entry (by decide +kernel) mwX6_hindranceOf rfl (Nat.le_of_ble_eq_true rfl) ?_
  show X G MX6_hindranceOf (rmD 3) 0 [(0, rf G 33 w), (1, .int (iI c)), (2, .int (iI x))] [] (hp (m)) 0 0 (.inl (some (.int (iI (hinC m (pl w) w c x))))) (hp (m))
  have np := hP.2.2.1
  have n8 := hP.2.2.2.2.2.2.1
  have kk := hP.2.2.2.2.2.2.2.2.2.2.2 c hc.1 hc.2
  have ha := kk.1
  have hb := kk.2.1
  have k2 := kk.2.2.1
  have k6 := kk.2.2.2.2.2.2
  have n12 := hP.2.2.2.2.2.1
  have n16 := hB.2.2.2.2.1.1
  have pf := BS_pf hP hB ha.1 ha.2
  have qf := BP_qf hP ha.1 ha.2
  have hf := hP.2.1
  have hpl4 : pl w < 4 := pl_lt hw
  have cb := hB.2.2.1 _ k6.1 k6.2
  have c6 := cb.1
  have br := hB.2.2.2.2.2 c hc.1 hc.2
  have qb := hB.2.1 _ ha.1 ha.2
  have q3 := qb.1
  have q5 := qb.2.2
  have q0 := pf.2.2.2.2
  have hLF : ∀ l, 0 ≤ l → l < m 2 w 0 → LF m (pl w) w l := fun l a b => BS_lf hP hB a b
  have so : 0 ≤ sm (outC m (pl w) w c) (m 2 w 0).toNat ∧ sm (outC m (pl w) w c) (m 2 w 0).toNat ≤ 2000000000 := by
    have h := sm_b (f := outC m (pl w) w c) (n := (m 2 w 0).toNat) (a := 0) (b := 100200000) (fun l a b => by
      have lf := hLF l a (by omega)
      have ob := owedC_b lf
      have l1 := lf.2.1
      have l2 := lf.2.2.1
      unfold outC
      split
      · split <;> omega
      · omega)
    have e : (((m 2 w 0).toNat : Nat) : Int) = m 2 w 0 := Int.toNat_of_nonneg n16.1
    rw [e] at h
    omega
  refine x_aload_n (pc := 0) dX6_hindranceOf_0 0 rfl ?_
  refine y_getR (pc := 1) dX6_hindranceOf_1 flX6_12 rfl rfl rfl hw ?_
  refine y_getR (pc := 4) dX6_hindranceOf_4 flX6_120 rfl rfl rfl (h13 hw) ?_
  refine x_iload_n (pc := 7) dX6_hindranceOf_7 1 rfl ?_
  refine y_iald (pc := 8) dX6_hindranceOf_8 rfl (h13 hw) (by omega) ?_
  refine x_if_eq (pc := 9) 14 dX6_hindranceOf_9 (by decide) (by unfold inI; omega) (fun c_9 => ?_) (fun c_9 => ?_)
  · refine x_aload_n (pc := 14) dX6_hindranceOf_14 0 rfl ?_
    refine x_iload_n (pc := 15) dX6_hindranceOf_15 1 rfl ?_
    refine x_callV (pc := 16) _ dX6_hindranceOf_16 (ct_outstanding hw c (by unfold inI; omega) n16 hLF) lkX6_123 rfl rfl rfl rfl (mem_dom0 (by decide) hw) (by decide) (Nat.le_of_ble_eq_true rfl) rfl ?_
    refine x_aload_n (pc := 19) dX6_hindranceOf_19 0 rfl ?_
    refine y_getR (pc := 20) dX6_hindranceOf_20 flX6_18 rfl rfl rfl hw ?_
    refine y_getR (pc := 23) dX6_hindranceOf_23 flX6_126 rfl rfl rfl (pl_lt hw) ?_
    refine x_iload_n (pc := 26) dX6_hindranceOf_26 1 rfl ?_
    refine y_iald (pc := 27) dX6_hindranceOf_27 rfl (pl_lt hw) (by omega) ?_
    refine x_iload_n (pc := 28) dX6_hindranceOf_28 2 rfl ?_
    refine x_isub (pc := 29) dX6_hindranceOf_29 ?_
    refine x_icmp_le (pc := 30) 35 dX6_hindranceOf_30 (by decide) (by unfold inI; omega) (by unfold inI; omega) (fun c_30 => ?_) (fun c_30 => ?_)
    · refine x_aload_n (pc := 35) dX6_hindranceOf_35 0 rfl ?_
      refine y_getR (pc := 36) dX6_hindranceOf_36 flX6_12 rfl rfl rfl hw ?_
      refine x_aload_n (pc := 39) dX6_hindranceOf_39 0 rfl ?_
      refine y_getR (pc := 40) dX6_hindranceOf_40 flX6_18 rfl rfl rfl hw ?_
      refine y_getR (pc := 43) dX6_hindranceOf_43 flX6_73 rfl rfl rfl (pl_lt hw) ?_
      refine x_iload_n (pc := 46) dX6_hindranceOf_46 1 rfl ?_
      refine y_iald (pc := 47) dX6_hindranceOf_47 rfl (pl_lt hw) (by omega) ?_
      refine x_callV (pc := 48) _ dX6_hindranceOf_48 (ct_aboveReserve (h13 hw) _ ⟨ha.1, by omega⟩) lkX6_129 rfl rfl rfl rfl (mem_dom0 (by decide) (h13 hw)) (by decide) (Nat.le_of_ble_eq_true rfl) rfl ?_
      refine x_iload_n (pc := 51) dX6_hindranceOf_51 2 rfl ?_
      refine x_icmp_ge (pc := 52) 57 dX6_hindranceOf_52 (by decide) (by unfold inI; omega) (by unfold inI; omega) (fun c_52 => ?_) (fun c_52 => ?_)
      · refine x_aload_n (pc := 57) dX6_hindranceOf_57 0 rfl ?_
        refine y_getR (pc := 58) dX6_hindranceOf_58 flX6_12 rfl rfl rfl hw ?_
        refine y_getR (pc := 61) dX6_hindranceOf_61 flX6_89 rfl rfl rfl (h13 hw) ?_
        refine y_getI (pc := 64) 0 dX6_hindranceOf_64 flX6_106 rfl rfl rfl (h13 hw) ?_
        refine x_bipush (pc := 67) (z := 16) dX6_hindranceOf_67 (by decide) ?_
        refine x_icmp_lt (pc := 69) 76 dX6_hindranceOf_69 (by decide) (by unfold inI; omega) (by unfold inI; omega) (fun c_69 => ?_) (fun c_69 => ?_)
        · refine x_iconst (pc := 76) dX6_hindranceOf_76 ?_
          exact y_iret (pc := 77) dX6_hindranceOf_77 rfl (by unfold hinC; split <;> (first | omega | (split <;> (first | omega | (split <;> (first | omega | (split <;> omega))))))) rfl
        · refine x_iconst (pc := 72) dX6_hindranceOf_72 ?_
          refine x_goto (pc := 73) 77 dX6_hindranceOf_73 (by decide) ?_
          exact y_iret (pc := 77) dX6_hindranceOf_77 rfl (by unfold hinC; split <;> (first | omega | (split <;> (first | omega | (split <;> (first | omega | (split <;> omega))))))) rfl
      · refine x_iconst (pc := 55) dX6_hindranceOf_55 ?_
        exact y_iret (pc := 56) dX6_hindranceOf_56 rfl (by unfold hinC; split <;> (first | omega | (split <;> (first | omega | (split <;> (first | omega | (split <;> omega))))))) rfl
    · refine x_iconst (pc := 33) dX6_hindranceOf_33 ?_
      exact y_iret (pc := 34) dX6_hindranceOf_34 rfl (by unfold hinC; split <;> (first | omega | (split <;> (first | omega | (split <;> (first | omega | (split <;> omega))))))) rfl
  · refine x_iconst (pc := 12) dX6_hindranceOf_12 ?_
    exact y_iret (pc := 13) dX6_hindranceOf_13 rfl (by unfold hinC; split <;> (first | omega | (split <;> (first | omega | (split <;> (first | omega | (split <;> omega))))))) rfl
