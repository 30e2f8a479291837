/-! floats: quotients of whole numbers are no NaN -/
theorem n64_iff (a : UInt64) : vf_n64 a ↔ a.toNat % 9223372036854775808 ≤ 9218868437227405312 := by
  unfold vf_n64
  rw [UInt64.le_iff_toNat_le, UInt64.toNat_and]
  have h1 : (0x7fffffffffffffff : UInt64).toNat = 2 ^ 63 - 1 := by decide
  have h2 : (0x7ff0000000000000 : UInt64).toNat = 9218868437227405312 := by decide
  rw [h1, h2, Nat.and_two_pow_sub_one_eq_mod]
theorem n32_iff (a : UInt32) : vf_n32 a ↔ a.toNat % 2147483648 ≤ 2139095040 := by
  unfold vf_n32
  rw [UInt32.le_iff_toNat_le, UInt32.toNat_and]
  have h1 : (0x7fffffff : UInt32).toNat = 2 ^ 31 - 1 := by decide
  have h2 : (0x7f800000 : UInt32).toNat = 2139095040 := by decide
  rw [h1, h2, Nat.and_two_pow_sub_one_eq_mod]
theorem rd_int {f : FP.Core.Fmt} (hp : 2 ≤ f.p) (hq : f.qmin ≤ 1 - (f.p : Int)) (hm : 0 ≤ f.qmax) (s : Bool) (n : Nat) (h0 : 0 < n) (h1 : n < 2 ^ f.p) : ∃ (c : Nat) (q : Int), FP.Core.roundRatio f s n 1 0 = .fin s c q ∧ f.tails ≤ c ∧ c < 2 ^ f.p ∧ f.qmin ≤ q ∧ q ≤ 0 := by
  have hl : n.log2 < f.p := (Nat.log2_lt (by omega)).mpr h1
  have hlo : 2 ^ n.log2 ≤ n := Nat.log2_self_le (by omega)
  have hhi : n < 2 ^ (n.log2 + 1) := Nat.lt_log2_self
  have hL : FP.Core.leading n 1 = (n.log2 : Int) := by
    unfold FP.Core.leading
    have e1 : (Nat.log2 1) = 0 := by decide
    simp only [e1]
    have e2 : ((n.log2 : Int) - ((0 : Nat) : Int)).toNat = n.log2 := by omega
    have e3 : (-((n.log2 : Int) - ((0 : Nat) : Int))).toNat = 0 := by omega
    rw [e2, e3, if_pos (by rw [Nat.one_mul, Nat.pow_zero, Nat.mul_one]; exact hlo)]
    omega
  have hQ : FP.Core.quantum f n 1 0 = (n.log2 : Int) - ((f.p : Int) - 1) := by
    unfold FP.Core.quantum
    rw [hL]
    omega
  refine ⟨n * 2 ^ (f.p - 1 - n.log2), (n.log2 : Int) - ((f.p : Int) - 1), ?_, ?_, ?_, by omega, by omega⟩
  · unfold FP.Core.roundRatio
    rw [if_neg (by omega), hQ]
    unfold FP.Core.roundAt FP.Core.unitsNum FP.Core.unitsDen
    have k1 : (0 - ((n.log2 : Int) - ((f.p : Int) - 1))).toNat = f.p - 1 - n.log2 := by omega
    have k2 : ((n.log2 : Int) - ((f.p : Int) - 1) - 0).toNat = 0 := by omega
    rw [k1, k2]
    have en : FP.Core.nearest (n * 2 ^ (f.p - 1 - n.log2)) (1 * 2 ^ 0) = n * 2 ^ (f.p - 1 - n.log2) := by
      unfold FP.Core.nearest
      rw [Nat.pow_zero, Nat.mul_one, Nat.mod_one, if_pos (by decide), Nat.div_one]
    rw [en]
    unfold FP.Core.settle
    rw [if_pos ?_]
    · unfold FP.Core.bound
      rw [if_pos (by omega)]
    · calc n * 2 ^ (f.p - 1 - n.log2) < 2 ^ (n.log2 + 1) * 2 ^ (f.p - 1 - n.log2) := Nat.mul_lt_mul_of_pos_right hhi (Nat.two_pow_pos _)
        _ = 2 ^ f.p := by rw [← Nat.pow_add]; congr 1; omega
  · unfold FP.Core.Fmt.tails
    calc 2 ^ (f.p - 1) = 2 ^ n.log2 * 2 ^ (f.p - 1 - n.log2) := by rw [← Nat.pow_add]; congr 1; omega
      _ ≤ n * 2 ^ (f.p - 1 - n.log2) := Nat.mul_le_mul_right _ hlo
  · calc n * 2 ^ (f.p - 1 - n.log2) < 2 ^ (n.log2 + 1) * 2 ^ (f.p - 1 - n.log2) := Nat.mul_lt_mul_of_pos_right hhi (Nat.two_pow_pos _)
      _ = 2 ^ f.p := by rw [← Nat.pow_add]; congr 1; omega
theorem enc64 (s : Bool) (c : Nat) (q : Int) (hc : c < 9007199254740992) (hq : q ≤ 971) : ∃ E T : Nat, FP.Core.encode FP.Core.b64 (.fin s c q) = (s.toNat * 2048 + E) * 4503599627370496 + T ∧ E ≤ 2046 ∧ T < 4503599627370496 ∧ (4503599627370496 ≤ c → 1 ≤ E) := by
  have ht : FP.Core.b64.tails = 4503599627370496 := by decide +kernel
  have hm : FP.Core.b64.qmin = -1074 := by decide +kernel
  have he : FP.Core.b64.exps = 2048 := by decide +kernel
  unfold FP.Core.encode FP.Core.assemble
  rw [ht, hm, he]
  dsimp only
  by_cases g : c < 4503599627370496
  · rw [if_pos g]
    exact ⟨0, c, rfl, by omega, g, fun z => by omega⟩
  · rw [if_neg g]
    exact ⟨(q - -1074).toNat + 1, c - 4503599627370496, rfl, by omega, by omega, fun _ => by omega⟩
theorem enc32 (s : Bool) (c : Nat) (q : Int) (hc : c < 16777216) (hq : q ≤ 104) : ∃ E T : Nat, FP.Core.encode FP.Core.b32 (.fin s c q) = (s.toNat * 256 + E) * 8388608 + T ∧ E ≤ 254 ∧ T < 8388608 ∧ (8388608 ≤ c → 1 ≤ E) := by
  have ht : FP.Core.b32.tails = 8388608 := by decide +kernel
  have hm : FP.Core.b32.qmin = -149 := by decide +kernel
  have he : FP.Core.b32.exps = 256 := by decide +kernel
  unfold FP.Core.encode FP.Core.assemble
  rw [ht, hm, he]
  dsimp only
  by_cases g : c < 8388608
  · rw [if_pos g]
    exact ⟨0, c, rfl, by omega, g, fun z => by omega⟩
  · rw [if_neg g]
    exact ⟨(q - -149).toNat + 1, c - 8388608, rfl, by omega, by omega, fun _ => by omega⟩
theorem sb_1 (s : Bool) : s.toNat = 0 ∨ s.toNat = 1 := by cases s <;> decide
theorem dec64 {S E T : Nat} (hS : S = 0 ∨ S = 1) (hE : E ≤ 2046) (hT : T < 4503599627370496) : ∃ s' c' q', FP.Core.decode FP.Core.b64 (UInt64.ofNat ((S * 2048 + E) * 4503599627370496 + T)).toNat = .fin s' c' q' ∧ (1 ≤ E → c' ≠ 0) := by
  have en : (UInt64.ofNat ((S * 2048 + E) * 4503599627370496 + T)).toNat = (S * 2048 + E) * 4503599627370496 + T := by
    rw [UInt64.toNat_ofNat']
    omega
  rw [en]
  have ht : FP.Core.b64.tails = 4503599627370496 := by decide +kernel
  have he : FP.Core.b64.exps = 2048 := by decide +kernel
  have fE : FP.Core.fieldE FP.Core.b64 ((S * 2048 + E) * 4503599627370496 + T) = E := by
    unfold FP.Core.fieldE
    rw [ht, he]
    omega
  unfold FP.Core.decode
  rw [fE, he, if_neg (by omega)]
  by_cases g : E = 0
  · rw [if_pos g]
    exact ⟨_, _, _, rfl, fun z => by omega⟩
  · rw [if_neg g]
    exact ⟨_, _, _, rfl, fun _ => by rw [ht]; omega⟩
theorem dec32 {S E T : Nat} (hS : S = 0 ∨ S = 1) (hE : E ≤ 254) (hT : T < 8388608) : ∃ s' c' q', FP.Core.decode FP.Core.b32 (UInt32.ofNat ((S * 256 + E) * 8388608 + T)).toNat = .fin s' c' q' ∧ (1 ≤ E → c' ≠ 0) := by
  have en : (UInt32.ofNat ((S * 256 + E) * 8388608 + T)).toNat = (S * 256 + E) * 8388608 + T := by
    rw [UInt32.toNat_ofNat']
    omega
  rw [en]
  have ht : FP.Core.b32.tails = 8388608 := by decide +kernel
  have he : FP.Core.b32.exps = 256 := by decide +kernel
  have fE : FP.Core.fieldE FP.Core.b32 ((S * 256 + E) * 8388608 + T) = E := by
    unfold FP.Core.fieldE
    rw [ht, he]
    omega
  unfold FP.Core.decode
  rw [fE, he, if_neg (by omega)]
  by_cases g : E = 0
  · rw [if_pos g]
    exact ⟨_, _, _, rfl, fun z => by omega⟩
  · rw [if_neg g]
    exact ⟨_, _, _, rfl, fun _ => by rw [ht]; omega⟩
/-- whole numbers that fit: finite, and not zero but for zero -/
theorem int64 (z : Int) (h0 : 0 ≤ z) (h1 : z < 9007199254740992) : ∃ s c q, FP.Core.decode FP.Core.b64 (UInt64.ofNat (FP.Core.fromInt FP.Core.b64 z)).toNat = .fin s c q ∧ (z ≠ 0 → c ≠ 0) := by
  by_cases g : z = 0
  · subst g
    exact ⟨false, 0, FP.Core.b64.qmin, by decide +kernel, fun q => absurd rfl q⟩
  · obtain ⟨c, q, e, a1, a2, a3, a4⟩ := rd_int (f := FP.Core.b64) (by decide) (by decide +kernel) (by decide +kernel) (decide (z < 0)) z.natAbs (by omega) (by show z.natAbs < 9007199254740992; omega)
    have e1 : FP.Core.fromInt FP.Core.b64 z = FP.Core.encode FP.Core.b64 (.fin (decide (z < 0)) c q) := congrArg (FP.Core.encode FP.Core.b64) e
    have b1 : (4503599627370496 : Nat) ≤ c := a1
    have b2 : c < 9007199254740992 := a2
    obtain ⟨E, T, k1, k2, k3, k4⟩ := enc64 (decide (z < 0)) c q b2 (by omega)
    obtain ⟨s', c', q', d1, d2⟩ := dec64 (sb_1 (decide (z < 0))) k2 k3
    rw [e1, k1]
    exact ⟨s', c', q', d1, fun _ => d2 (k4 b1)⟩
theorem int32 (z : Int) (h0 : 0 ≤ z) (h1 : z < 16777216) : ∃ s c q, FP.Core.decode FP.Core.b32 (UInt32.ofNat (FP.Core.fromInt FP.Core.b32 z)).toNat = .fin s c q ∧ (z ≠ 0 → c ≠ 0) := by
  by_cases g : z = 0
  · subst g
    exact ⟨false, 0, FP.Core.b32.qmin, by decide +kernel, fun q => absurd rfl q⟩
  · obtain ⟨c, q, e, a1, a2, a3, a4⟩ := rd_int (f := FP.Core.b32) (by decide) (by decide +kernel) (by decide +kernel) (decide (z < 0)) z.natAbs (by omega) (by show z.natAbs < 16777216; omega)
    have e1 : FP.Core.fromInt FP.Core.b32 z = FP.Core.encode FP.Core.b32 (.fin (decide (z < 0)) c q) := congrArg (FP.Core.encode FP.Core.b32) e
    have b1 : (8388608 : Nat) ≤ c := a1
    have b2 : c < 16777216 := a2
    obtain ⟨E, T, k1, k2, k3, k4⟩ := enc32 (decide (z < 0)) c q b2 (by omega)
    obtain ⟨s', c', q', d1, d2⟩ := dec32 (sb_1 (decide (z < 0))) k2 k3
    rw [e1, k1]
    exact ⟨s', c', q', d1, fun _ => d2 (k4 b1)⟩
/-- what is rounded is no NaN -/
theorem bnd64 (s : Bool) (c : Nat) (q : Int) (hc : c < 9007199254740992) : vf_n64 (UInt64.ofNat (FP.Core.encode FP.Core.b64 (FP.Core.bound FP.Core.b64 s c q))) := by
  rw [n64_iff, UInt64.toNat_ofNat']
  have hS := sb_1 s
  have hmx : FP.Core.b64.qmax = 971 := by decide +kernel
  unfold FP.Core.bound
  rw [hmx]
  by_cases g : q ≤ 971
  · rw [if_pos g]
    obtain ⟨E, T, k1, k2, k3, -⟩ := enc64 s c q hc g
    rw [k1]
    omega
  · rw [if_neg g]
    have ht : FP.Core.b64.tails = 4503599627370496 := by decide +kernel
    have he : FP.Core.b64.exps = 2048 := by decide +kernel
    unfold FP.Core.encode FP.Core.assemble
    rw [ht, he]
    dsimp only
    omega
theorem bnd32 (s : Bool) (c : Nat) (q : Int) (hc : c < 16777216) : vf_n32 (UInt32.ofNat (FP.Core.encode FP.Core.b32 (FP.Core.bound FP.Core.b32 s c q))) := by
  rw [n32_iff, UInt32.toNat_ofNat']
  have hS := sb_1 s
  have hmx : FP.Core.b32.qmax = 104 := by decide +kernel
  unfold FP.Core.bound
  rw [hmx]
  by_cases g : q ≤ 104
  · rw [if_pos g]
    obtain ⟨E, T, k1, k2, k3, -⟩ := enc32 s c q hc g
    rw [k1]
    omega
  · rw [if_neg g]
    have ht : FP.Core.b32.tails = 8388608 := by decide +kernel
    have he : FP.Core.b32.exps = 256 := by decide +kernel
    unfold FP.Core.encode FP.Core.assemble
    rw [ht, he]
    dsimp only
    omega
theorem rr64 (s : Bool) (n d : Nat) (e : Int) : vf_n64 (UInt64.ofNat (FP.Core.encode FP.Core.b64 (FP.Core.roundRatio FP.Core.b64 s n d e))) := by
  unfold FP.Core.roundRatio
  split
  · have := bnd64 s 0 FP.Core.b64.qmin (by decide)
    unfold FP.Core.bound at this
    rw [if_pos (by decide +kernel)] at this
    exact this
  · unfold FP.Core.roundAt FP.Core.settle
    split
    · next h => exact bnd64 s _ _ h
    · exact bnd64 s _ _ (by decide +kernel)
theorem rr32 (s : Bool) (n d : Nat) (e : Int) : vf_n32 (UInt32.ofNat (FP.Core.encode FP.Core.b32 (FP.Core.roundRatio FP.Core.b32 s n d e))) := by
  unfold FP.Core.roundRatio
  split
  · have := bnd32 s 0 FP.Core.b32.qmin (by decide)
    unfold FP.Core.bound at this
    rw [if_pos (by decide +kernel)] at this
    exact this
  · unfold FP.Core.roundAt FP.Core.settle
    split
    · next h => exact bnd32 s _ _ h
    · exact bnd32 s _ _ (by decide +kernel)
theorem div64 {x y : UInt64} {s t : Bool} {c d : Nat} {q r : Int} (hx : FP.Core.decode FP.Core.b64 x.toNat = .fin s c q) (hy : FP.Core.decode FP.Core.b64 y.toNat = .fin t d r) (hd : d ≠ 0) : vf_n64 (FP.ddiv x y) := by
  show vf_n64 (UInt64.ofNat (FP.Core.encode FP.Core.b64 (FP.Core.quotient FP.Core.b64 (FP.Core.decode FP.Core.b64 x.toNat) (FP.Core.decode FP.Core.b64 y.toNat))))
  rw [hx, hy]
  show vf_n64 (UInt64.ofNat (FP.Core.encode FP.Core.b64 (if d = 0 then (if c = 0 then .nan else .inf (s != t)) else FP.Core.roundRatio FP.Core.b64 (s != t) c d (q - r))))
  rw [if_neg hd]
  exact rr64 _ _ _ _
theorem div32 {x y : UInt32} {s t : Bool} {c d : Nat} {q r : Int} (hx : FP.Core.decode FP.Core.b32 x.toNat = .fin s c q) (hy : FP.Core.decode FP.Core.b32 y.toNat = .fin t d r) (hd : d ≠ 0) : vf_n32 (FP.fdiv x y) := by
  show vf_n32 (UInt32.ofNat (FP.Core.encode FP.Core.b32 (FP.Core.quotient FP.Core.b32 (FP.Core.decode FP.Core.b32 x.toNat) (FP.Core.decode FP.Core.b32 y.toNat))))
  rw [hx, hy]
  show vf_n32 (UInt32.ofNat (FP.Core.encode FP.Core.b32 (if d = 0 then (if c = 0 then .nan else .inf (s != t)) else FP.Core.roundRatio FP.Core.b32 (s != t) c d (q - r))))
  rw [if_neg hd]
  exact rr32 _ _ _ _
/-- a number compared with itself -/
theorem nn64 {a : UInt64} (h : vf_n64 a) : FP.Core.decode FP.Core.b64 a.toNat ≠ .nan := by
  rw [n64_iff] at h
  have ht : FP.Core.b64.tails = 4503599627370496 := by decide +kernel
  have he : FP.Core.b64.exps = 2048 := by decide +kernel
  unfold FP.Core.decode FP.Core.fieldE FP.Core.fieldT
  rw [ht, he]
  split
  · split
    · intro q; cases q
    · exfalso; omega
  · split <;> (intro q; cases q)
theorem nn32 {a : UInt32} (h : vf_n32 a) : FP.Core.decode FP.Core.b32 a.toNat ≠ .nan := by
  rw [n32_iff] at h
  have ht : FP.Core.b32.tails = 8388608 := by decide +kernel
  have he : FP.Core.b32.exps = 256 := by decide +kernel
  unfold FP.Core.decode FP.Core.fieldE FP.Core.fieldT
  rw [ht, he]
  split
  · split
    · intro q; cases q
    · exfalso; omega
  · split <;> (intro q; cases q)
theorem cmp_self_i (a : Int) : compare a a = .eq := by simp [compare, compareOfLessAndEq]
theorem ord_self {x : FP.Core.Datum} (h : x ≠ .nan) : FP.Core.order x x = some .eq := by
  cases x with
  | nan => exact absurd rfl h
  | inf s => show some (compare (FP.Core.signed s 1) (FP.Core.signed s 1)) = _; rw [cmp_self_i]
  | fin s c q => show some (compare _ _) = _; rw [cmp_self_i]
theorem cmp64 {a : UInt64} (h : vf_n64 a) : FP.dcmp a a = some .eq := ord_self (nn64 h)
theorem cmp32 {a : UInt32} (h : vf_n32 a) : FP.fcmp a a = some .eq := ord_self (nn32 h)
theorem f2d_n {a : UInt32} (h : vf_n32 a) : vf_n64 (FP.f2d a) := by
  have k := nn32 h
  have k2 : FP.Core.fIsNaN a = false := by
    show decide (FP.Core.decode FP.Core.b32 a.toNat = .nan) = false
    exact decide_eq_false k
  unfold FP.f2d
  rw [k2]
  show vf_n64 (UInt64.ofNat (FP.Core.encode FP.Core.b64 (FP.Core.round FP.Core.b64 (FP.Core.decode FP.Core.b32 a.toNat))))
  cases e : FP.Core.decode FP.Core.b32 a.toNat with
  | nan => exact absurd e k
  | inf s =>
    show vf_n64 (UInt64.ofNat (FP.Core.encode FP.Core.b64 (.inf s)))
    have := bnd64 s 0 972 (by decide)
    unfold FP.Core.bound at this
    rw [if_neg (by decide +kernel)] at this
    exact this
  | fin s c q => exact rr64 s c 1 q
/-- the two quotients -/
theorem n_dd {u t : Int} (hu : 0 ≤ u ∧ u < 9007199254740992) (ht : 0 < t ∧ t < 9007199254740992) : vf_n64 (FP.ddiv (UInt64.ofNat (FP.Core.fromInt FP.Core.b64 u)) (UInt64.ofNat (FP.Core.fromInt FP.Core.b64 t))) := by
  obtain ⟨s, c, q, h1, -⟩ := int64 u hu.1 hu.2
  obtain ⟨s2, c2, q2, h2, h3⟩ := int64 t (by omega) ht.2
  exact div64 h1 h2 (h3 (by omega))
theorem n_ff {u t : Int} (hu : 0 ≤ u ∧ u < 16777216) (ht : 0 < t ∧ t < 16777216) : vf_n32 (FP.fdiv (FP.i2f (iI u)) (FP.i2f (iI t))) := by
  have e : ∀ z : Int, 0 ≤ z → z < 16777216 → FP.i2f (iI z) = UInt32.ofNat (FP.Core.fromInt FP.Core.b32 z) := fun z a b => by
    show UInt32.ofNat (FP.Core.fromInt FP.Core.b32 (iI z).toInt) = _
    rw [iI_toInt (by unfold inI; omega)]
  rw [e u hu.1 hu.2, e t (by omega) ht.2]
  obtain ⟨s, c, q, h1, -⟩ := int32 u hu.1 hu.2
  obtain ⟨s2, c2, q2, h2, h3⟩ := int32 t (by omega) ht.2
  exact div32 h1 h2 (h3 (by omega))
theorem l2d_e {z : Int} (h : inI z) : FP.l2d (lI z) = UInt64.ofNat (FP.Core.fromInt FP.Core.b64 z) := by
  show UInt64.ofNat (FP.Core.fromInt FP.Core.b64 (lI z).toInt) = _
  rw [lI_toInt (by unfold inI at h; unfold inL; omega)]
theorem i2d_e {z : Int} (h : inI z) : FP.i2d (iI z) = UInt64.ofNat (FP.Core.fromInt FP.Core.b64 z) := by
  show UInt64.ofNat (FP.Core.fromInt FP.Core.b64 (iI z).toInt) = _
  rw [iI_toInt h]
