/-! numbers of eight bytes -/
theorem bM_any (x : Int64) (k : Int) (s : Nat) (hs : s ≤ 56) (h1 : ((iI (8 * (7 - k))).toInt64 &&& 63).toBitVec.smod 64 = BitVec.ofNat 64 s) : bM x k = ((x.toBitVec.toNat / 2 ^ s % 256 : Nat) : Int) := by
  have hs2 : (BitVec.ofNat 64 s).toNat = s := by rw [BitVec.toNat_ofNat]; omega
  have eM : (x >>> ((iI (8 * (7 - k))).toInt64 &&& 63)).toBitVec = x.toBitVec.sshiftRight s := by
    rw [Int64.toBitVec_shiftRight, h1]
    show x.toBitVec.sshiftRight (BitVec.ofNat 64 s).toNat = _
    rw [hs2]
  have eZ : (((x >>> ((iI (8 * (7 - k))).toInt64 &&& 63)) &&& lI 255).toInt32).toBitVec = ((x.toBitVec.sshiftRight s) &&& 255#64).setWidth 32 := by
    show ((x >>> ((iI (8 * (7 - k))).toInt64 &&& 63)) &&& lI 255).toBitVec.signExtend 32 = _
    rw [BitVec.signExtend_eq_setWidth_of_le _ (by decide), Int64.toBitVec_and, eM]
    rfl
  have hb : (((x >>> ((iI (8 * (7 - k))).toInt64 &&& 63)) &&& lI 255).toInt32).toBitVec.toNat = (x.toBitVec.sshiftRight s).toNat % 256 := by rw [eZ, by_255]
  have hM : bM x k = ((x.toBitVec.sshiftRight s).toNat % 256 : Nat) := by
    show (((x >>> ((iI (8 * (7 - k))).toInt64 &&& 63)) &&& lI 255).toInt32).toBitVec.toInt = _
    rw [BitVec.toInt_eq_toNat_of_lt (by rw [hb]; omega), hb]
  have e := congrArg BitVec.toNat (by_lo x.toBitVec s hs)
  rw [BitVec.toNat_setWidth, BitVec.toNat_setWidth, BitVec.toNat_ushiftRight, Nat.shiftRight_eq_div_pow] at e
  change _ % 256 = _ % 256 at e
  rw [hM, e]
theorem bM_v (x : Int64) (k : Nat) (h : k < 8) : bM x (k : Int) = ((x.toBitVec.toNat / 256 ^ (7 - k) % 256 : Nat) : Int) := by
  match k, h with
  | 0, _ => exact bM_any x _ 56 (by decide) (by decide +kernel)
  | 1, _ => exact bM_any x _ 48 (by decide) (by decide +kernel)
  | 2, _ => exact bM_any x _ 40 (by decide) (by decide +kernel)
  | 3, _ => exact bM_any x _ 32 (by decide) (by decide +kernel)
  | 4, _ => exact bM_any x _ 24 (by decide) (by decide +kernel)
  | 5, _ => exact bM_any x _ 16 (by decide) (by decide +kernel)
  | 6, _ => exact bM_any x _ 8 (by decide) (by decide +kernel)
  | 7, _ => exact bM_any x _ 0 (by decide) (by decide +kernel)
  | n + 8, h => exact absurd h (by omega)
/-- bytes, the most significant first -/
def bn (f : Nat → Nat) : Nat → Nat
  | 0 => 0
  | n + 1 => bn f n * 256 + f n
theorem bn_lt {f : Nat → Nat} : ∀ n, (∀ i, i < n → f i < 256) → bn f n < 256 ^ n := by
  intro n
  induction n with
  | zero => intro _; exact Nat.zero_lt_one
  | succ n ih =>
    intro h
    have a := ih (fun i hi => h i (by omega))
    have b := h n (by omega)
    show bn f n * 256 + f n < 256 ^ (n + 1)
    rw [Nat.pow_succ]
    omega
theorem bn_dig {f : Nat → Nat} : ∀ n j, (∀ i, i < n → f i < 256) → j < n → bn f n / 256 ^ (n - 1 - j) % 256 = f j := by
  intro n
  induction n with
  | zero => intro j _ h; exact absurd h (by omega)
  | succ n ih =>
    intro j h hj
    have b := h n (by omega)
    by_cases e : j = n
    · subst e
      rw [show j + 1 - 1 - j = 0 by omega, Nat.pow_zero, Nat.div_one]
      show (bn f j * 256 + f j) % 256 = f j
      omega
    · have i := ih j (fun i hi => h i (by omega)) (by omega)
      rw [show n + 1 - 1 - j = (n - 1 - j) + 1 by omega, Nat.pow_succ, Nat.mul_comm, ← Nat.div_div_eq_div_mul]
      have e2 : bn f (n + 1) / 256 = bn f n := by
        show (bn f n * 256 + f n) / 256 = bn f n
        omega
      rw [e2]
      exact i
theorem bn_step {x : Int64} {f : Nat → Nat} {n : Nat} {z : Int} (hx : x.toBitVec.toNat = bn f n) (hn : n < 8) (hf : ∀ i, i < n → f i < 256) (hz : z = (f n : Int)) (hz1 : f n < 256) : (x <<< ((iI 8).toInt64 &&& 63) ||| lI z).toBitVec.toNat = bn f (n + 1) := by
  have l := bn_lt n hf
  have p : 256 ^ n ≤ 256 ^ 7 := Nat.pow_le_pow_right (by decide) (by omega)
  rw [Int64.toBitVec_or, Int64.toBitVec_shiftLeft, show ((iI 8).toInt64 &&& 63).toBitVec.smod 64 = 8#64 by decide +kernel]
  have e2 : (lI z).toBitVec.toNat = f n := by
    rw [hz]
    show ((Int64.ofInt (f n : Int)).toBitVec).toNat = f n
    rw [Int64.toBitVec_ofInt]
    show (BitVec.ofInt 64 (f n : Int)).toNat = f n
    rw [BitVec.toNat_ofInt]
    omega
  rw [BitVec.toNat_or, e2]
  have e1 : (x.toBitVec <<< 8#64).toNat = bn f n * 256 := by
    show (x.toBitVec <<< (8#64).toNat).toNat = _
    rw [BitVec.toNat_shiftLeft, hx, Nat.shiftLeft_eq]
    show bn f n * 2 ^ 8 % 2 ^ 64 = bn f n * 256
    have : (256 : Nat) ^ 7 = 72057594037927936 := by decide
    omega
  rw [e1]
  show bn f n * 256 ||| f n = bn f n * 256 + f n
  rw [show bn f n * 256 = bn f n <<< 8 by rw [Nat.shiftLeft_eq]]
  exact (Nat.shiftLeft_add_eq_or_of_lt (show f n < 2 ^ 8 by omega) _).symm
/-- the bytes that the class takes -/
theorem bT_of {x : Int64} {f : Nat → Nat} {n : Nat} (hx : x.toBitVec.toNat = bn f n) (hn : n ≤ 8) (hf : ∀ i, i < n → f i < 128) : (∀ k : Nat, k < 8 - n → bT x (k : Int) = 0) ∧ ∀ j : Nat, j < n → bT x ((8 - n + j : Nat) : Int) = (f j : Int) := by
  have hf2 : ∀ i, i < n → f i < 256 := fun i hi => by have := hf i hi; omega
  refine ⟨fun k hk => ?_, fun j hj => ?_⟩
  · have l := bn_lt n hf2
    have p : 256 ^ n ≤ 256 ^ (7 - k) := Nat.pow_le_pow_right (by decide) (by omega)
    unfold bT
    rw [bM_v x k (by omega), hx, Nat.div_eq_of_lt (by omega)]
    rfl
  · have d := bn_dig n j hf2 hj
    unfold bT
    rw [bM_v x _ (by omega), hx, show 7 - (8 - n + j) = n - 1 - j by omega, d]
    have := hf j hj
    unfold bI
    omega
theorem ap_skip {x : Int64} {m : Mem} {r : Nat} : ∀ (z : Nat) (k : Int), (∀ i : Nat, i < z → bT x (k + (i : Int)) = 0) → apC x m k (z + r) = apC x m (k + (z : Int)) r ∧ cnR x k (z + r) = cnR x (k + (z : Int)) r := by
  intro z
  induction z with
  | zero => intro k _; rw [Nat.zero_add, show k + ((0 : Nat) : Int) = k by omega]; exact ⟨rfl, rfl⟩
  | succ z ih =>
    intro k h
    have h0 := h 0 (by omega)
    rw [show k + ((0 : Nat) : Int) = k by omega] at h0
    have i := ih (k + 1) (fun i hi => by
      have := h (i + 1) (by omega)
      rw [show k + 1 + (i : Int) = k + ((i + 1 : Nat) : Int) by omega]
      exact this)
    rw [show z + 1 + r = (z + r) + 1 by omega, show k + ((z + 1 : Nat) : Int) = k + 1 + (z : Int) by omega]
    refine ⟨?_, ?_⟩
    · show apC x (if bT x k = 0 then m else _) (k + 1) (z + r) = _
      rw [if_pos h0]
      exact i.1
    · show (if bT x k = 0 then (0 : Int) else 1) + cnR x (k + 1) (z + r) = _
      rw [if_pos h0, i.2]
      omega
theorem ap_txt {x : Int64} {f : Nat → Int} : ∀ (r j : Nat) (k : Int) (m : Mem), (∀ i : Nat, i < r → bT x (k + (i : Int)) = f (j + i) ∧ f (j + i) ≠ 0) → apC x m k r 34 0 5 = m 34 0 5 + (r : Int) ∧ cnR x k r = (r : Int) ∧ (∀ t, ¬ (m 34 0 5 ≤ t ∧ t < m 34 0 5 + (r : Int)) → apC x m k r 35 0 t = m 35 0 t) ∧ (∀ i : Nat, i < r → apC x m k r 35 0 (m 34 0 5 + (i : Int)) = f (j + i)) ∧ (∀ p i, p ≠ 34 → p ≠ 35 → apC x m k r p i = m p i) ∧ (∀ t, t ≠ 5 → apC x m k r 34 0 t = m 34 0 t) := by
  intro r
  induction r with
  | zero => intro j k m _; exact ⟨by show m 34 0 5 = _ + ((0 : Nat) : Int); omega, rfl, fun _ _ => rfl, fun i hi => absurd hi (by omega), fun _ _ _ _ => rfl, fun _ _ => rfl⟩
  | succ r ih =>
    intro j k m h
    have h0 := h 0 (by omega)
    rw [show k + ((0 : Nat) : Int) = k by omega, Nat.add_zero] at h0
    have hne : ¬ bT x k = 0 := by rw [h0.1]; exact h0.2
    obtain ⟨m', em⟩ : ∃ m', up3 (up3 m 35 0 (m 34 0 5) (bT x k)) 34 0 5 (m 34 0 5 + 1) = m' := ⟨_, rfl⟩
    have e5 : m' 34 0 5 = m 34 0 5 + 1 := by rw [← em, up3_at]
    have i := ih (j + 1) (k + 1) m' (fun i hi => by
      have := h (i + 1) (by omega)
      rw [show k + 1 + (i : Int) = k + ((i + 1 : Nat) : Int) by omega, show j + 1 + i = j + (i + 1) by omega]
      exact this)
    have ea : apC x m k (r + 1) = apC x m' (k + 1) r := by
      show apC x (if bT x k = 0 then m else _) (k + 1) r = _
      rw [if_neg hne, em]
    have e35 : ∀ t, m' 35 0 t = if t = m 34 0 5 then bT x k else m 35 0 t := fun t => by
      rw [← em, up3_k (by decide)]
      by_cases z : t = m 34 0 5
      · rw [if_pos z, z, up3_at]
      · rw [if_neg z, up3_off z]
    rw [ea]
    refine ⟨by rw [i.1, e5]; omega, ?_, fun t ht => ?_, fun u hu => ?_, fun p q a b => ?_, fun t ht => ?_⟩
    · show (if bT x k = 0 then (0 : Int) else 1) + cnR x (k + 1) r = _
      rw [if_neg hne, i.2.1]
      omega
    · rw [i.2.2.1 t (by rw [e5]; omega), e35, if_neg (by omega)]
    · by_cases z : u = 0
      · subst z
        rw [i.2.2.1 _ (by rw [e5]; omega), e35, if_pos (by omega), h0.1, Nat.add_zero]
      · have w := i.2.2.2.1 (u - 1) (by omega)
        rw [e5, show m 34 0 5 + 1 + ((u - 1 : Nat) : Int) = m 34 0 5 + (u : Int) by omega, show j + 1 + (u - 1) = j + u by omega] at w
        exact w
    · rw [i.2.2.2.2.1 p q a b, ← em, up3_k a, up3_k b]
    · rw [i.2.2.2.2.2 t ht, ← em, up3_off ht, up3_k (by decide)]
