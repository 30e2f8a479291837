/-! both sides together: what holds after every line of the script -/
def rw45 (m : Mem) (t : Int) : Int → Int := fun j => m 45 0 (430 * t + j)
def rw46 (m : Mem) (t : Int) : Int → Int := fun j => m 46 0 (430 * t + j)
def hs (m : Mem) (t : Int) : Nat := 5 + ((m 36 0 1 - m 36 0 0 + t) % 8).toNat
theorem hs_b (m : Mem) (t : Int) : 5 ≤ hs m t ∧ hs m t < 13 := by unfold hs; omega
def IVh (m : Mem) : Prop := (0 ≤ m 36 0 0 ∧ m 36 0 0 ≤ 8) ∧ (0 ≤ m 36 0 1 ∧ m 36 0 1 < 8) ∧ m 41 0 6 = m 36 0 0
theorem sr_at (m : Mem) (N : Int → Int) : sr m N 42 0 = N := by
  funext j
  unfold sr
  rw [if_pos ⟨rfl, rfl⟩]
/-- what the thinking ahead, the drafts and the outs may change -/
def Kp (m m1 : Mem) : Prop := (∀ k i, k < 22 → i ≠ 1 → i ≠ 4 → m1 k i = m k i) ∧ (∀ k i, 22 ≤ k → k < 33 → i ≠ 3 → m1 k i = m k i) ∧ m1 34 0 = m 34 0 ∧ m1 35 0 = m 35 0 ∧ m1 36 0 = m 36 0 ∧ m1 40 0 = m 40 0 ∧ m1 42 0 = m 42 0 ∧ m1 45 0 = m 45 0 ∧ m1 46 0 = m 46 0 ∧ m1 47 0 = m 47 0 ∧ m1 48 0 = m 48 0 ∧ (∀ j : Int, j ≠ 7 → j ≠ 18 → m1 41 0 j = m 41 0 j)
theorem Kp.r (m : Mem) : Kp m m := ⟨fun _ _ _ _ _ => rfl, fun _ _ _ _ _ => rfl, rfl, rfl, rfl, rfl, rfl, rfl, rfl, rfl, rfl, fun _ _ _ => rfl⟩
theorem Kp.t {m m1 m2 : Mem} (a : Kp m m1) (b : Kp m1 m2) : Kp m m2 :=
  ⟨fun k i x y z => (b.1 k i x y z).trans (a.1 k i x y z), fun k i x y z => (b.2.1 k i x y z).trans (a.2.1 k i x y z), b.2.2.1.trans a.2.2.1, b.2.2.2.1.trans a.2.2.2.1, b.2.2.2.2.1.trans a.2.2.2.2.1, b.2.2.2.2.2.1.trans a.2.2.2.2.2.1, b.2.2.2.2.2.2.1.trans a.2.2.2.2.2.2.1, b.2.2.2.2.2.2.2.1.trans a.2.2.2.2.2.2.2.1, b.2.2.2.2.2.2.2.2.1.trans a.2.2.2.2.2.2.2.2.1, b.2.2.2.2.2.2.2.2.2.1.trans a.2.2.2.2.2.2.2.2.2.1, b.2.2.2.2.2.2.2.2.2.2.1.trans a.2.2.2.2.2.2.2.2.2.2.1, fun j x y => (b.2.2.2.2.2.2.2.2.2.2.2 j x y).trans (a.2.2.2.2.2.2.2.2.2.2.2 j x y)⟩
theorem Kp_k {m m1 : Mem} (h : ∀ k, k ≠ 44 → k ≠ 49 → k ≠ 50 → m1 k = m k) : Kp m m1 :=
  ⟨fun k i a _ _ => by rw [h k (by omega) (by omega) (by omega)], fun k i a b _ => by rw [h k (by omega) (by omega) (by omega)], by rw [h 34 (by decide) (by decide) (by decide)], by rw [h 35 (by decide) (by decide) (by decide)], by rw [h 36 (by decide) (by decide) (by decide)], by rw [h 40 (by decide) (by decide) (by decide)], by rw [h 42 (by decide) (by decide) (by decide)], by rw [h 45 (by decide) (by decide) (by decide)], by rw [h 46 (by decide) (by decide) (by decide)], by rw [h 47 (by decide) (by decide) (by decide)], by rw [h 48 (by decide) (by decide) (by decide)], fun j _ _ => by rw [h 41 (by decide) (by decide) (by decide)]⟩
theorem Kp_41 {m : Mem} {j z : Int} (h : j = 7 ∨ j = 18) : Kp m (up3 m 41 0 j z) :=
  ⟨fun k i a _ _ => by rw [up3_k (by omega)], fun k i a b _ => by rw [up3_k (by omega)], by rw [up3_k (by decide)], by rw [up3_k (by decide)], by rw [up3_k (by decide)], by rw [up3_k (by decide)], by rw [up3_k (by decide)], by rw [up3_k (by decide)], by rw [up3_k (by decide)], by rw [up3_k (by decide)], by rw [up3_k (by decide)], fun j' a b => up3_off (by omega)⟩
theorem Kp_thr {m : Mem} {z : Int} : Kp m (thr m z) := Kp_41 (Or.inl rfl)
theorem Kp_out {m : Mem} {j z : Int} : Kp m (up3 m 49 0 j z) := Kp_k (fun _ _ a _ => up3_k a)
/-- the state kept aside and thought on -/
theorem Kp_1 {m m1 : Mem} (h : ∀ k i, i ≠ 1 ∨ 22 ≤ k → m1 k i = m k i) : Kp m m1 :=
  ⟨fun k i _ a _ => h k i (.inl a), fun k i a _ _ => h k i (.inr a), h 34 0 (.inr (by decide)), h 35 0 (.inr (by decide)), h 36 0 (.inr (by decide)), h 40 0 (.inr (by decide)), h 42 0 (.inr (by decide)), h 45 0 (.inr (by decide)), h 46 0 (.inr (by decide)), h 47 0 (.inr (by decide)), h 48 0 (.inr (by decide)), fun j _ _ => by rw [h 41 0 (.inr (by decide))]⟩
theorem Kp_tkL {m : Mem} {n : Nat} : Kp m (tkL m 0 1 n) := Kp_1 (fun k i a => by
  by_cases g : i = 1
  · rw [tkL_k (by omega)]
  · exact tkL_i g n m)
theorem Kp_teM {m : Mem} {l : Int} {n : Nat} : Kp m (teM m 0 1 l n) := Kp_1 (fun k i a => by
  by_cases g : i = 1
  · rw [teM_k (by omega)]
  · exact teM_i g n m)
theorem Kp_cpS {m : Mem} : Kp m (cpS m 0 1) := Kp_1 (fun k i a => by
  by_cases g : i = 1
  · rw [cpS_hi (by omega)]
  · exact cpS_i g)
theorem Kp_tkC {m : Mem} : Kp m (tkC m 0 1) := Kp_tkL (n := 1)
theorem Kp_miM {q w : Int} : ∀ (n : Nat) (m : Mem), Kp m (miM m q w n) := by
  intro n
  induction n with
  | zero => intro m; exact Kp.r m
  | succ n ih =>
    intro m
    unfold miM
    split
    · exact Kp_tkC
    · exact Kp_tkC.t (ih _)
theorem Kp_addL {m : Mem} {a x t : Int} : Kp m (addL m 1 a x t) := Kp_1 (fun k i b => by
  by_cases g : i = 1
  · rw [addL_k (by omega)]
  · exact addL_i g)
theorem Kp_shL {m : Mem} {hr q : Int} {n : Nat} : Kp m (shL m 0 1 hr q n) := Kp_1 (fun k i a => by
  by_cases g : i = 1
  · rw [shL_k (by omega) (by omega)]
  · exact shL_i g n m q)
theorem Kp_trL {m : Mem} {t : Int} {n : Nat} : Kp m (trL m 0 1 t n) := Kp_1 (fun k i a => by
  by_cases g : i = 1
  · rw [trL_k (by omega) (by omega) (by omega) (by omega)]
  · exact trL_i g n m t)
/-- the row kept aside -/
theorem cpX_44 {m : Mem} {a b n : Int} {k : Nat} (h : k ≠ 44) : cpX m 42 44 a b n k = m k := by
  funext i j
  unfold cpX
  rw [if_neg (fun q => h q.1)]
theorem Kp_as {m : Mem} : Kp m (asX m (m 42 0) (m 42 0)) := by
  have e : asX m (m 42 0) (m 42 0) = cpX m 42 44 0 0 430 := by
    unfold asX
    rw [sr_self]
    have : (m 42 0) = (cpX m 42 44 0 0 430) 42 0 := by rw [cpX_44 (by decide)]
    rw [this, sr_self]
  rw [e]
  exact Kp_k (fun k a _ _ => cpX_44 a)
/-- an act: the old state is pushed, the new one stands -/
theorem pushC_k {m : Mem} {k i : Nat} (h : (k < 22 ∧ i ≠ 5 + (m 36 0 1).toNat) ∨ (22 ≤ k ∧ k ≠ 36)) : pushC m k i = m k i := by
  unfold pushC
  rw [up3_k (by omega), up3_k (by omega)]
  rcases h with h | h
  · exact cpS_i h.2
  · rw [cpS_hi h.1]
theorem pushC_0 {m : Mem} {k : Nat} (h : k < 22) : pushC m k 0 = m k 0 := pushC_k (.inl ⟨h, by omega⟩)
theorem pushC_s {m : Mem} {k : Nat} (h : k < 22) : pushC m k (5 + (m 36 0 1).toNat) = m k 0 := by
  unfold pushC
  rw [up3_k (by omega), up3_k (by omega)]
  exact cpS_lo h
theorem pushC_36 (m : Mem) : pushC m 36 0 0 = min (m 36 0 0 + 1) 8 ∧ pushC m 36 0 1 = (m 36 0 1 + 1) % 8 := by
  unfold pushC
  exact ⟨by rw [up3_at], by rw [up3_off (by decide), up3_at]⟩
theorem ST.push {m : Mem} {N : Int → Int} {K : Nat} (h : ST m 0 0 N K) : ST (pushC m) 0 0 N K :=
  h.mv (fun k g => pushC_0 g) (fun k g1 g2 => pushC_k (.inr ⟨g1, by omega⟩))
/-- the model's row of old states -/
theorem KM_k {m : Mem} {N : Int → Int} {k : Nat} (h : k ≠ 41 ∧ k ≠ 42 ∧ k ≠ 45) : KM m N k = m k := by
  unfold KM keM keX
  split
  · rw [up3_k h.1]
    funext i j
    unfold cpX
    rw [if_neg (fun q => h.2.2 q.1), up3_k h.1]
    unfold shX
    rw [if_neg (fun q => h.2.2 q.1), sr_k h.2.1]
  · rw [up3_k h.1]
    funext i j
    unfold cpX
    rw [if_neg (fun q => h.2.2 q.1), sr_k h.2.1]
theorem KM_41 {m : Mem} {N : Int → Int} {j : Int} (h : j ≠ 6) : KM m N 41 0 j = m 41 0 j := by
  unfold KM keM keX
  split
  · rw [up3_off h]
    unfold cpX
    rw [if_neg (fun q => absurd q.1 (by decide)), up3_off h]
    unfold shX
    rw [if_neg (fun q => absurd q.1 (by decide)), sr_k (by decide)]
  · rw [up3_off h]
    unfold cpX
    rw [if_neg (fun q => absurd q.1 (by decide)), sr_k (by decide)]
theorem KM_6 {m : Mem} {N : Int → Int} (h : 0 ≤ m 41 0 6 ∧ m 41 0 6 ≤ 8) : KM m N 41 0 6 = min (m 41 0 6 + 1) 8 := by
  have e : sr m N 41 0 6 = m 41 0 6 := by rw [sr_k (by decide)]
  unfold KM keM keX
  rw [e]
  by_cases g : m 41 0 6 = 8
  · rw [if_pos g, up3_at]; omega
  · rw [if_neg g, up3_at]; omega
theorem KM_45 {m : Mem} {N : Int → Int} (h : 0 ≤ m 41 0 6 ∧ m 41 0 6 ≤ 8) {t j : Int} (ht : 0 ≤ t) (h0 : 0 ≤ j) (h1 : j < 430) : (t < min (m 41 0 6) 7 → KM m N 45 0 (430 * t + j) = m 45 0 (430 * (if m 41 0 6 = 8 then t + 1 else t) + j)) ∧ (t = min (m 41 0 6) 7 → KM m N 45 0 (430 * t + j) = N j) := by
  have e : sr m N 41 0 6 = m 41 0 6 := by rw [sr_k (by decide)]
  unfold KM keM keX
  rw [e]
  by_cases g : m 41 0 6 = 8
  · rw [if_pos g, if_pos g]
    constructor
    · intro a
      rw [up3_k (by decide)]
      unfold cpX
      rw [if_neg (by omega), up3_k (by decide)]
      unfold shX
      rw [if_pos (by omega), sr_k (by decide)]
      congr 1
      omega
    · intro a
      rw [up3_k (by decide)]
      unfold cpX
      rw [if_pos (by omega), up3_k (by decide)]
      unfold shX
      rw [if_neg (fun q => absurd q.1 (by decide)), sr_at]
      congr 1
      omega
  · rw [if_neg g, if_neg g]
    constructor
    · intro a
      rw [up3_k (by decide)]
      unfold cpX
      rw [if_neg (by omega), sr_k (by decide)]
    · intro a
      rw [up3_k (by decide)]
      unfold cpX
      rw [if_pos (by omega), sr_at]
      congr 1
      omega
