/-! append: eight bytes -/
def bM (x : Int64) (k : Int) : Int := ((x >>> ((iI (8 * (7 - k))).toInt64 &&& 63)) &&& lI 255).toInt32.toInt
def bC (x : Int64) (s : Int) : Int := (((x.toUInt64 >>> ((iI s).toInt64.toUInt64 &&& Int64.toUInt64 63)).toInt64).toInt32.toInt8.toInt32).toInt
theorem by_lo (y : BitVec 64) (s : Nat) (hs : s ≤ 56) : (y.sshiftRight s).setWidth 8 = (y >>> s).setWidth 8 := by
  apply BitVec.eq_of_getLsbD_eq
  intro i hi
  have h1 : s + i < 64 := by omega
  have h2 : i < 64 := by omega
  simp only [BitVec.getLsbD_setWidth, BitVec.getLsbD_sshiftRight, BitVec.getLsbD_ushiftRight]
  simp [h1, h2, show ¬ 64 ≤ i by omega]
theorem by_255 (v : BitVec 64) : ((v &&& 255#64).setWidth 32).toNat = v.toNat % 256 := by
  rw [BitVec.toNat_setWidth, BitVec.toNat_and]
  show (v.toNat &&& 255) % 2 ^ 32 = _
  rw [show (255 : Nat) = 2 ^ 8 - 1 from rfl, Nat.and_two_pow_sub_one_eq_mod]
  omega
theorem by_any (x : Int64) (k : Int) (s : Nat) (hs : s ≤ 56) (h1 : ((iI (8 * (7 - k))).toInt64 &&& 63).toBitVec.smod 64 = BitVec.ofNat 64 s) (h2 : ((iI (s : Int)).toInt64.toUInt64 &&& Int64.toUInt64 63).toBitVec % 64 = BitVec.ofNat 64 s) :
    (0 ≤ bM x k ∧ bM x k < 256) ∧ bC x s = bI (bM x k) := by
  have hs2 : (BitVec.ofNat 64 s).toNat = s := by rw [BitVec.toNat_ofNat]; omega
  have eM : (x >>> ((iI (8 * (7 - k))).toInt64 &&& 63)).toBitVec = x.toBitVec.sshiftRight s := by
    rw [Int64.toBitVec_shiftRight, h1]
    show x.toBitVec.sshiftRight (BitVec.ofNat 64 s).toNat = _
    rw [hs2]
  have eZ : (((x >>> ((iI (8 * (7 - k))).toInt64 &&& 63)) &&& lI 255).toInt32).toBitVec = ((x.toBitVec.sshiftRight s) &&& 255#64).setWidth 32 := by
    show ((x >>> ((iI (8 * (7 - k))).toInt64 &&& 63)) &&& lI 255).toBitVec.signExtend 32 = _
    rw [BitVec.signExtend_eq_setWidth_of_le _ (by decide), Int64.toBitVec_and, eM]
    rfl
  have hb : (((x >>> ((iI (8 * (7 - k))).toInt64 &&& 63)) &&& lI 255).toInt32).toBitVec.toNat = (x.toBitVec.sshiftRight s).toNat % 256 := by rw [eZ, by_255]
  have hM : bM x k = ((x.toBitVec.sshiftRight s).toNat % 256 : Nat) := by
    show (((x >>> ((iI (8 * (7 - k))).toInt64 &&& 63)) &&& lI 255).toInt32).toBitVec.toInt = _
    rw [BitVec.toInt_eq_toNat_of_lt (by rw [hb]; omega), hb]
  refine ⟨by omega, ?_⟩
  have e8 : (((x.toUInt64 >>> ((iI (s : Int)).toInt64.toUInt64 &&& Int64.toUInt64 63)).toInt64).toInt32.toInt8) = (iI (bM x k)).toInt8 := by
    apply Int8.toBitVec_inj.mp
    have l1 : (((x.toUInt64 >>> ((iI (s : Int)).toInt64.toUInt64 &&& Int64.toUInt64 63)).toInt64).toInt32.toInt8).toBitVec = ((x.toBitVec >>> s).setWidth 32).setWidth 8 := by
      show (((x.toUInt64 >>> ((iI (s : Int)).toInt64.toUInt64 &&& Int64.toUInt64 63)).toBitVec).signExtend 32).signExtend 8 = _
      rw [BitVec.signExtend_eq_setWidth_of_le _ (by decide), BitVec.signExtend_eq_setWidth_of_le _ (by decide), UInt64.toBitVec_shiftRight, h2]
      show ((x.toBitVec >>> (BitVec.ofNat 64 s).toNat).setWidth 32).setWidth 8 = _
      rw [hs2]
    have l2 : ((iI (bM x k)).toInt8).toBitVec = (((x.toBitVec.sshiftRight s) &&& 255#64).setWidth 32).setWidth 8 := by
      show (iI (bM x k)).toBitVec.signExtend 8 = _
      rw [BitVec.signExtend_eq_setWidth_of_le _ (by decide)]
      unfold bM
      rw [iI_of, eZ]
    rw [l1, l2]
    rw [BitVec.setWidth_setWidth_of_le _ (by decide), BitVec.setWidth_setWidth_of_le _ (by decide), ← by_lo _ _ hs]
    apply BitVec.eq_of_toNat_eq
    rw [BitVec.toNat_setWidth, BitVec.toNat_setWidth, BitVec.toNat_and]
    show _ % 2 ^ 8 = ((x.toBitVec.sshiftRight s).toNat &&& 255) % 2 ^ 8
    rw [show (255 : Nat) = 2 ^ 8 - 1 from rfl, Nat.and_two_pow_sub_one_eq_mod]
    omega
  unfold bC
  rw [e8, iI_b, iI_toInt]
  unfold inI bI
  omega
theorem by_ok (x : Int64) (k : Int) (h : 0 ≤ k ∧ k < 8) : (0 ≤ bM x k ∧ bM x k < 256) ∧ bC x (56 - 8 * k) = bI (bM x k) := by
  have hk : k = 0 ∨ k = 1 ∨ k = 2 ∨ k = 3 ∨ k = 4 ∨ k = 5 ∨ k = 6 ∨ k = 7 := by omega
  rcases hk with rfl | rfl | rfl | rfl | rfl | rfl | rfl | rfl
  · exact by_any x 0 56 (by decide) (by decide +kernel) (by decide +kernel)
  · exact by_any x 1 48 (by decide) (by decide +kernel) (by decide +kernel)
  · exact by_any x 2 40 (by decide) (by decide +kernel) (by decide +kernel)
  · exact by_any x 3 32 (by decide) (by decide +kernel) (by decide +kernel)
  · exact by_any x 4 24 (by decide) (by decide +kernel) (by decide +kernel)
  · exact by_any x 5 16 (by decide) (by decide +kernel) (by decide +kernel)
  · exact by_any x 6 8 (by decide) (by decide +kernel) (by decide +kernel)
  · exact by_any x 7 0 (by decide) (by decide +kernel) (by decide +kernel)
/-- the byte that is put into the text -/
def bT (x : Int64) (k : Int) : Int := bI (bM x k)
theorem bT_b (x : Int64) (k : Int) : -128 ≤ bT x k ∧ bT x k < 128 := by unfold bT bI; omega
theorem bT_0 (x : Int64) (k : Int) (h : 0 ≤ k ∧ k < 8) : bT x k = 0 ↔ bM x k = 0 := by
  have := (by_ok x k h).1
  unfold bT bI
  omega
def cnR (x : Int64) (k : Int) : Nat → Int
  | 0 => 0
  | n + 1 => (if bT x k = 0 then 0 else 1) + cnR x (k + 1) n
theorem cnR_b (x : Int64) : ∀ (n : Nat) (k : Int), 0 ≤ cnR x k n ∧ cnR x k n ≤ n := by
  intro n
  induction n with
  | zero => intro k; exact ⟨Int.le_refl _, Int.le_refl _⟩
  | succ n ih =>
    intro k
    have := ih (k + 1)
    show 0 ≤ (if bT x k = 0 then (0 : Int) else 1) + cnR x (k + 1) n ∧ (if bT x k = 0 then (0 : Int) else 1) + cnR x (k + 1) n ≤ _
    split <;> omega
def apC (x : Int64) (m : Mem) (k : Int) : Nat → Mem
  | 0 => m
  | n + 1 => apC x (if bT x k = 0 then m else up3 (up3 m 35 0 (m 34 0 5) (bT x k)) 34 0 5 (m 34 0 5 + 1)) (k + 1) n
def apN (x : Int64) (m : Mem) (k : Int) : Nat → Mem
  | 0 => m
  | n + 1 => apN x (if bT x k = 0 then m else up3 (up3 m 48 0 (m 41 0 9) (bT x k)) 41 0 9 (m 41 0 9 + 1)) (k + 1) n
abbrev apF (x : Int64) (m : Mem) : Prop := 500 < m 34 0 5 + cnR x 0 8
abbrev apG (x : Int64) (m : Mem) : Prop := 500 < m 41 0 9 + cnR x 0 8
theorem lp_take1 {G : GG} {m m9 : Mem} (x : Int64) (a9 : Int) (r9 : Option Value) (kk : X G MX3_takeIn (rmD 0) 29 [(4, .int (iI (-8))), (3, .int (iI a9)), (0, rf G 34 0), (1, .long x)] [] (hp m) 0 0 (.inl r9) (hp m9)) : ∀ (n : Nat) (k a : Int), k + n = 8 → 0 ≤ k → 0 ≤ a ∧ a ≤ k → a9 = a + cnR x k n → X G MX3_takeIn (rmD 0) 6 [(4, .int (iI (56 - 8 * k))), (3, .int (iI a)), (0, rf G 34 0), (1, .long x)] [] (hp (m)) 0 0 (.inl r9) (hp (m9)) := by
  intro n
  induction n with
  | zero =>
    intro k a hk h0 ha h9
    refine x_iload (pc := 6) dX3_takeIn_6 0 rfl ?_
    refine x_if_lt (pc := 8) 29 dX3_takeIn_8 (by decide) (by unfold inI; omega) (fun c_8 => ?_) (fun c_8 => (by exfalso; omega))
    have e : a9 = a := by rw [h9]; show a + 0 = a; omega
    have ek : 56 - 8 * k = -8 := by omega
    rw [← e, ek]
    exact x_lv [0, 1, 2, 3] rfl kk
  | succ n ih =>
    intro k a hk h0 ha h9
    have eb : bC x (56 - 8 * k) = bT x k := (by_ok x k (by omega)).2
    have bb := bT_b x k
    refine x_iload (pc := 6) dX3_takeIn_6 0 rfl ?_
    refine x_if_lt (pc := 8) 29 dX3_takeIn_8 (by decide) (by unfold inI; omega) (fun c_8 => (by exfalso; omega)) (fun c_8 => ?_)
    refine x_lload_n (pc := 11) dX3_takeIn_11 3 rfl ?_
    refine x_iload (pc := 12) dX3_takeIn_12 0 rfl ?_
    refine x_lushr_ (pc := 14) dX3_takeIn_14 ?_
    refine x_l2i_ (pc := 15) dX3_takeIn_15 ?_
    refine x_i2b_ (pc := 16) dX3_takeIn_16 ?_
    refine x_top (v' := .int (iI (bT x k))) (by rw [← eb]; exact congrArg Value.int (iI_of _).symm) ?_
    refine x_if_eq (pc := 17) 23 dX3_takeIn_17 (by decide) (by unfold inI; omega) (fun c_17 => ?_) (fun c_17 => ?_)
    · refine x_iinc (pc := 23) (lv' := [(4, _), (3, _), (0, _), (1, _)]) dX3_takeIn_23 0 rfl (by decide) rfl ?_
      refine x_goto (pc := 26) 6 dX3_takeIn_26 (by decide) ?_
      have ek : 56 - 8 * k + (-8) = 56 - 8 * (k + 1) := by omega
      rw [ek]
      exact x_lv [0, 1, 2, 3] rfl (ih (k + 1) a (by omega) (by omega) (by omega) (by rw [h9]; show _ + ((if _ then _ else _) + _) = _; rw [if_pos c_17]; omega))
    · refine x_iinc (pc := 20) (lv' := [(3, _), (4, _), (0, _), (1, _)]) dX3_takeIn_20 1 rfl (by decide) rfl ?_
      refine x_iinc (pc := 23) (lv' := [(4, _), (3, _), (0, _), (1, _)]) dX3_takeIn_23 1 rfl (by decide) rfl ?_
      refine x_goto (pc := 26) 6 dX3_takeIn_26 (by decide) ?_
      have ek : 56 - 8 * k + (-8) = 56 - 8 * (k + 1) := by omega
      rw [ek]
      exact x_lv [0, 1, 2, 3] rfl (ih (k + 1) (a + 1) (by omega) (by omega) (by omega) (by rw [h9]; show _ + ((if _ then _ else _) + _) = _; rw [if_neg c_17]; omega))
theorem lp_take2 {G : GG} (m9 : Mem) (x : Int64) (a : Int) : ∀ (n : Nat) (m : Mem) (k : Int), k + n = 8 → 0 ≤ k → 0 ≤ m 34 0 5 → m 34 0 5 + cnR x k n ≤ 500 → m9 = apC x m k n → X G MX3_takeIn (rmD 0) 48 [(4, .int (iI (56 - 8 * k))), (3, .int (iI a)), (0, rf G 34 0), (1, .long x)] [] (hp (m)) 0 0 (.inl (some (.int (iI (m9 34 0 5))))) (hp (m9)) := by
  intro n
  induction n with
  | zero =>
    intro m k hk h0 hl hc h9
    refine x_iload (pc := 48) dX3_takeIn_48 0 rfl ?_
    refine x_if_lt (pc := 50) 93 dX3_takeIn_50 (by decide) (by unfold inI; omega) (fun c_50 => ?_) (fun c_50 => (by exfalso; omega))
    refine x_aload_n (pc := 93) dX3_takeIn_93 2 rfl ?_
    refine y_getI (pc := 94) 5 dX3_takeIn_94 flX3_27 rfl rfl rfl (by decide) ?_
    exact y_iret (pc := 97) dX3_takeIn_97 rfl (by rw [h9]; rfl) (by rw [h9]; rfl)
  | succ n ih =>
    intro m k hk h0 hl hc h9
    have eb : bC x (56 - 8 * k) = bT x k := (by_ok x k (by omega)).2
    have bb := bT_b x k
    refine x_iload (pc := 48) dX3_takeIn_48 0 rfl ?_
    refine x_if_lt (pc := 50) 93 dX3_takeIn_50 (by decide) (by unfold inI; omega) (fun c_50 => (by exfalso; omega)) (fun c_50 => ?_)
    refine x_lload_n (pc := 53) dX3_takeIn_53 3 rfl ?_
    refine x_iload (pc := 54) dX3_takeIn_54 0 rfl ?_
    refine x_lushr_ (pc := 56) dX3_takeIn_56 ?_
    refine x_l2i_ (pc := 57) dX3_takeIn_57 ?_
    refine x_i2b_ (pc := 58) dX3_takeIn_58 ?_
    refine x_top (v' := .int (iI (bT x k))) (by rw [← eb]; exact congrArg Value.int (iI_of _).symm) ?_
    refine x_istore (pc := 59) (lv' := [(5, _), (4, _), (3, _), (0, _), (1, _)]) dX3_takeIn_59 (by decide) rfl ?_
    refine x_iload (pc := 61) dX3_takeIn_61 0 rfl ?_
    refine x_if_eq (pc := 63) 87 dX3_takeIn_63 (by decide) (by unfold inI; omega) (fun c_63 => ?_) (fun c_63 => ?_)
    · refine x_iinc (pc := 87) (lv' := [(4, _), (5, _), (3, _), (0, _), (1, _)]) dX3_takeIn_87 1 rfl (by decide) rfl ?_
      refine x_goto (pc := 90) 48 dX3_takeIn_90 (by decide) ?_
      have ek : 56 - 8 * k + (-8) = 56 - 8 * (k + 1) := by omega
      rw [ek]
      exact x_lv [0, 2, 3, 4] rfl (ih m (k + 1) (by omega) (by omega) hl (by have hc2 : m 34 0 5 + ((if bT x k = 0 then 0 else 1) + cnR x (k + 1) n) ≤ 500 := hc; rw [if_pos c_63] at hc2; omega) (by rw [h9]; show apC x (if _ then _ else _) _ n = _; rw [if_pos c_63]))
    · have hc2 : m 34 0 5 + ((if bT x k = 0 then 0 else 1) + cnR x (k + 1) n) ≤ 500 := hc
      rw [if_neg c_63] at hc2
      have cb := cnR_b x n (k + 1)
      refine x_aload_n (pc := 66) dX3_takeIn_66 3 rfl ?_
      refine y_getR (pc := 67) dX3_takeIn_67 flX3_23 rfl rfl rfl (by decide) ?_
      refine x_aload_n (pc := 70) dX3_takeIn_70 3 rfl ?_
      refine y_getI (pc := 71) 5 dX3_takeIn_71 flX3_27 rfl rfl rfl (by decide) ?_
      refine x_iload (pc := 74) dX3_takeIn_74 0 rfl ?_
      refine y_bast (pc := 76) dX3_takeIn_76 rfl (by decide) (by omega) bb ?_
      refine x_aload_n (pc := 77) dX3_takeIn_77 3 rfl ?_
      refine x_dup (pc := 78) dX3_takeIn_78 rfl ?_
      refine y_getI (pc := 79) 5 dX3_takeIn_79 flX3_27 rfl rfl rfl (by decide) ?_
      refine x_iconst (pc := 82) dX3_takeIn_82 ?_
      refine x_iadd (pc := 83) dX3_takeIn_83 ?_
      refine y_putI (pc := 84) 5 dX3_takeIn_84 fwX3_27 rfl rfl rfl (by decide) ?_
      refine x_iinc (pc := 87) (lv' := [(4, _), (5, _), (3, _), (0, _), (1, _)]) dX3_takeIn_87 1 rfl (by decide) rfl ?_
      refine x_goto (pc := 90) 48 dX3_takeIn_90 (by decide) ?_
      have ek : 56 - 8 * k + (-8) = 56 - 8 * (k + 1) := by omega
      rw [ek]
      exact x_lv [0, 2, 3, 4] rfl (ih _ (k + 1) (by omega) (by omega) (by rw [up3_at, up3_k (by decide)]; omega) (by rw [up3_at, up3_k (by decide)]; omega) (by rw [h9]; show apC x (if _ then _ else _) _ n = _; rw [if_neg c_63]; rfl))
theorem tl_take0 {G : GG} {m : Mem} (x : Int64) (hB : RW m) (hf : apF x m)  : X G MX3_takeIn (rmD 0) 29 [(4, .int (iI (-8))), (3, .int (iI (cnR x 0 8))), (0, rf G 34 0), (1, .long x)] [] (hp (m)) 0 0 (.inl (some (.int (iI (-2))))) (hp (m)) := by
  have b1 := hB.1
  have cb := cnR_b x 8 0
  unfold apF at hf
  refine x_aload_n (pc := 29) dX3_takeIn_29 2 rfl ?_
  refine y_getI (pc := 30) 5 dX3_takeIn_30 flX3_27 rfl rfl rfl (by decide) ?_
  refine x_iload_n (pc := 33) dX3_takeIn_33 1 rfl ?_
  refine x_iadd (pc := 34) dX3_takeIn_34 ?_
  refine x_sipush (pc := 35) (z := 500) dX3_takeIn_35 (by decide) ?_
  refine x_icmp_le (pc := 38) 44 dX3_takeIn_38 (by decide) (by unfold inI; omega) (by unfold inI; omega) (fun c_38 => (by exfalso; omega)) (fun c_38 => ?_)
  refine x_bipush (pc := 41) (z := (-2)) dX3_takeIn_41 (by decide) ?_
  exact y_iret (pc := 43) dX3_takeIn_43 rfl rfl rfl
theorem tl_take1 {G : GG} {m : Mem} (x : Int64) (hB : RW m) (hf : ¬ apF x m)  : X G MX3_takeIn (rmD 0) 29 [(4, .int (iI (-8))), (3, .int (iI (cnR x 0 8))), (0, rf G 34 0), (1, .long x)] [] (hp (m)) 0 0 (.inl (some (.int (iI (apC x m 0 8 34 0 5))))) (hp (apC x m 0 8)) := by
  have b1 := hB.1
  have cb := cnR_b x 8 0
  unfold apF at hf
  refine x_aload_n (pc := 29) dX3_takeIn_29 2 rfl ?_
  refine y_getI (pc := 30) 5 dX3_takeIn_30 flX3_27 rfl rfl rfl (by decide) ?_
  refine x_iload_n (pc := 33) dX3_takeIn_33 1 rfl ?_
  refine x_iadd (pc := 34) dX3_takeIn_34 ?_
  refine x_sipush (pc := 35) (z := 500) dX3_takeIn_35 (by decide) ?_
  refine x_icmp_le (pc := 38) 44 dX3_takeIn_38 (by decide) (by unfold inI; omega) (by unfold inI; omega) (fun c_38 => ?_) (fun c_38 => (by exfalso; omega))
  refine x_bipush (pc := 44) (z := 56) dX3_takeIn_44 (by decide) ?_
  refine x_istore (pc := 46) (lv' := [(4, _), (3, _), (0, _), (1, _)]) dX3_takeIn_46 (by decide) rfl ?_
  exact x_lv [0, 1, 2, 3] rfl (lp_take2 _ x _ 8 m 0 (by omega) (by omega) b1.1 (by omega) rfl)
theorem ct_take0 {G : GG} {m : Mem} (x : Int64) (hB : RW m) (hf : apF x m)  : Ct G MX3_takeIn (rmD 0) [rf G 34 0, .long x] (hp (m)) (.inl (some (.int (iI (-2))))) (hp (m)) := by
  refine x_entry (by decide +kernel) mwX3_takeIn rfl (Nat.le_of_ble_eq_true rfl) ?_
  show X G MX3_takeIn (rmD 0) 0 [(0, rf G 34 0), (1, .long x)] [] (hp (m)) 0 0 (.inl (some (.int (iI (-2))))) (hp (m))
  refine x_iconst (pc := 0) dX3_takeIn_0 ?_
  refine x_istore_n (pc := 1) (lv' := [(3, _), (0, _), (1, _)]) dX3_takeIn_1 rfl (by decide) rfl ?_
  refine x_bipush (pc := 2) (z := 56) dX3_takeIn_2 (by decide) ?_
  refine x_istore (pc := 4) (lv' := [(4, _), (3, _), (0, _), (1, _)]) dX3_takeIn_4 (by decide) rfl ?_
  exact x_lv [0, 1, 2, 3] rfl (lp_take1 x _ _ (tl_take0 x hB hf) 8 0 0 (by omega) (by omega) (by omega) (Int.zero_add _).symm)
theorem ct_take1 {G : GG} {m : Mem} (x : Int64) (hB : RW m) (hf : ¬ apF x m)  : Ct G MX3_takeIn (rmD 0) [rf G 34 0, .long x] (hp (m)) (.inl (some (.int (iI (apC x m 0 8 34 0 5))))) (hp (apC x m 0 8)) := by
  refine x_entry (by decide +kernel) mwX3_takeIn rfl (Nat.le_of_ble_eq_true rfl) ?_
  show X G MX3_takeIn (rmD 0) 0 [(0, rf G 34 0), (1, .long x)] [] (hp (m)) 0 0 (.inl (some (.int (iI (apC x m 0 8 34 0 5))))) (hp (apC x m 0 8))
  refine x_iconst (pc := 0) dX3_takeIn_0 ?_
  refine x_istore_n (pc := 1) (lv' := [(3, _), (0, _), (1, _)]) dX3_takeIn_1 rfl (by decide) rfl ?_
  refine x_bipush (pc := 2) (z := 56) dX3_takeIn_2 (by decide) ?_
  refine x_istore (pc := 4) (lv' := [(4, _), (3, _), (0, _), (1, _)]) dX3_takeIn_4 (by decide) rfl ?_
  exact x_lv [0, 1, 2, 3] rfl (lp_take1 x _ _ (tl_take1 x hB hf) 8 0 0 (by omega) (by omega) (by omega) (Int.zero_add _).symm)
theorem P_append0 {G : GG} {m : Mem} (x : Int64) (hB : RW m) (hf : apF x m)  : Ct G MX7_append (rmD 9) [rf G 38 0, .long x] (hp (m)) (.inl (some (.int (iI (-2))))) (hp (m)) := by
  refine x_entry (by decide +kernel) mwX7_append rfl (Nat.le_of_ble_eq_true rfl) ?_
  show X G MX7_append (rmD 9) 0 [(0, rf G 38 0), (1, .long x)] [] (hp (m)) 0 0 (.inl (some (.int (iI (-2))))) (hp (m))
  refine x_aload_n (pc := 0) dX7_append_0 0 rfl ?_
  refine y_getR (pc := 1) dX7_append_1 flX7_31 rfl rfl rfl (by decide) ?_
  refine x_lload_n (pc := 4) dX7_append_4 1 rfl ?_
  refine x_callV (pc := 5) _ dX7_append_5 (ct_take0 x hB hf) lkX7_50 rfl rfl rfl rfl (mem_dom0 (by decide) (by decide)) (by decide) (Nat.le_of_ble_eq_true rfl) rfl ?_
  exact y_iret (pc := 8) dX7_append_8 rfl rfl rfl
theorem P_append1 {G : GG} {m : Mem} (x : Int64) (hB : RW m) (hf : ¬ apF x m)  : Ct G MX7_append (rmD 9) [rf G 38 0, .long x] (hp (m)) (.inl (some (.int (iI (apC x m 0 8 34 0 5))))) (hp (apC x m 0 8)) := by
  refine x_entry (by decide +kernel) mwX7_append rfl (Nat.le_of_ble_eq_true rfl) ?_
  show X G MX7_append (rmD 9) 0 [(0, rf G 38 0), (1, .long x)] [] (hp (m)) 0 0 (.inl (some (.int (iI (apC x m 0 8 34 0 5))))) (hp (apC x m 0 8))
  refine x_aload_n (pc := 0) dX7_append_0 0 rfl ?_
  refine y_getR (pc := 1) dX7_append_1 flX7_31 rfl rfl rfl (by decide) ?_
  refine x_lload_n (pc := 4) dX7_append_4 1 rfl ?_
  refine x_callV (pc := 5) _ dX7_append_5 (ct_take1 x hB hf) lkX7_50 rfl rfl rfl rfl (mem_dom0 (by decide) (by decide)) (by decide) (Nat.le_of_ble_eq_true rfl) rfl ?_
  exact y_iret (pc := 8) dX7_append_8 rfl rfl rfl
