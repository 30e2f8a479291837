/-! the class's tick: what its steps write, and that its bounds hold on -/
def rmF (cap pts fade : Int) : Int := max (cap - pts / fade) ((cap + 1) / 2)
theorem roomC_F (m : Mem) (p s : Nat) (q : Int) : roomC m p s q = rmF (m 23 p q) (m 4 s q) (m 22 p 0) := rfl
theorem loseC_k {m : Mem} {p s k : Nat} {q : Int} (h3 : k ≠ 3) (h0 : k ≠ 0) : loseC m p s q k = m k := by
  unfold loseC
  split
  · funext i j
    simp only [up3_apply, h3, h0, false_and, if_false]
  · rfl
theorem loseC_i {m : Mem} {p s k i : Nat} {q : Int} (hi : i ≠ s) : loseC m p s q k i = m k i := by
  unfold loseC
  split
  · funext j
    simp only [up3_apply, hi, false_and, and_false, if_false]
  · rfl
theorem loseC_3 (m : Mem) (p s : Nat) (q j : Int) : loseC m p s q 3 s j = if j = q then min (m 3 s q) (roomC m p s q) else m 3 s j := by
  unfold loseC
  by_cases hj : j = q
  · subst hj
    rw [if_pos rfl]
    split
    · simp only [up3_apply, Nat.reduceEqDiff, false_and, if_false, true_and, if_true]; omega
    · omega
  · rw [if_neg hj]
    split
    · simp only [up3_apply, Nat.reduceEqDiff, false_and, if_false, true_and, hj]
    · rfl
theorem loseC_0 (m : Mem) (p s : Nat) (q j : Int) : loseC m p s q 0 s j = if j = 3 then m 0 s 3 + max 0 (m 3 s q - roomC m p s q) else m 0 s j := by
  unfold loseC
  by_cases hj : j = 3
  · subst hj
    rw [if_pos rfl]
    split
    · simp only [up3_apply, true_and, if_true]; omega
    · omega
  · rw [if_neg hj]
    split
    · simp only [up3_apply, true_and, hj, if_false, Nat.reduceEqDiff, false_and]
    · rfl
theorem getC_k {m : Mem} {p s k : Nat} {q x : Int} (h3 : k ≠ 3) (h0 : k ≠ 0) : getC m p s q x k = m k := by
  unfold getC
  rw [loseC_k h3 h0]
  funext i j
  simp only [up3_apply, h3, false_and, if_false]
theorem getC_i {m : Mem} {p s k i : Nat} {q x : Int} (hi : i ≠ s) : getC m p s q x k i = m k i := by
  unfold getC
  rw [loseC_i hi]
  funext j
  simp only [up3_apply, hi, false_and, and_false, if_false]
theorem roomC_up3 (m : Mem) (p s : Nat) (q j z : Int) : roomC (up3 m 3 s j z) p s q = roomC m p s q := rfl
theorem getC_3 (m : Mem) (p s : Nat) (q x j : Int) : getC m p s q x 3 s j = if j = q then min (m 3 s q + x) (roomC m p s q) else m 3 s j := by
  unfold getC
  rw [loseC_3]
  by_cases hj : j = q
  · rw [if_pos hj, if_pos hj, up3_at, roomC_up3]
  · rw [if_neg hj, if_neg hj, up3_off hj]
theorem getC_0 (m : Mem) (p s : Nat) (q x j : Int) : getC m p s q x 0 s j = if j = 3 then m 0 s 3 + max 0 (m 3 s q + x - roomC m p s q) else m 0 s j := by
  unfold getC
  rw [loseC_0, roomC_up3]
  by_cases hj : j = 3
  · rw [if_pos hj, if_pos hj, up3_at]; rfl
  · rw [if_neg hj, if_neg hj]; rfl
theorem giveC_k {m : Mem} {p s k : Nat} {q x : Int} (h3 : k ≠ 3) (h0 : k ≠ 0) (h4 : k ≠ 4) : giveC m p s q x k = m k := by
  unfold giveC
  rw [loseC_k h3 h0]
  funext i j
  simp only [up3_apply, h3, h4, false_and, if_false]
theorem giveC_i {m : Mem} {p s k i : Nat} {q x : Int} (hi : i ≠ s) : giveC m p s q x k i = m k i := by
  unfold giveC
  rw [loseC_i hi]
  funext j
  simp only [up3_apply, hi, false_and, and_false, if_false]
/-- the points of a pack behind a giving -/
def ptC (m : Mem) (p s : Nat) (q x : Int) : Int := min 1000000000 (m 4 s q + wearC m p s q x)
theorem giveC_4 (m : Mem) (p s : Nat) (q x j : Int) : giveC m p s q x 4 s j = if j = q then ptC m p s q x else m 4 s j := by
  unfold giveC
  rw [loseC_k (by decide) (by decide)]
  by_cases hj : j = q
  · rw [if_pos hj, hj, up3_at]; rfl
  · rw [if_neg hj, up3_off hj]; rfl
theorem giveC_room (m : Mem) (p s : Nat) (q x : Int) : roomC (up3 (up3 m 3 s q (m 3 s q - x)) 4 s q (min 1000000000 (m 4 s q + wearC m p s q x))) p s q = rmF (m 23 p q) (ptC m p s q x) (m 22 p 0) := by
  rw [roomC_F, up3_at]; rfl
theorem giveC_3 (m : Mem) (p s : Nat) (q x j : Int) : giveC m p s q x 3 s j = if j = q then min (m 3 s q - x) (rmF (m 23 p q) (ptC m p s q x) (m 22 p 0)) else m 3 s j := by
  unfold giveC
  rw [loseC_3, giveC_room]
  by_cases hj : j = q
  · rw [if_pos hj, if_pos hj]
    show min (up3 m 3 s q (m 3 s q - x) 3 s q) _ = _
    rw [up3_at]
  · rw [if_neg hj, if_neg hj]
    show up3 m 3 s q (m 3 s q - x) 3 s j = _
    rw [up3_off hj]
theorem giveC_0 (m : Mem) (p s : Nat) (q x j : Int) : giveC m p s q x 0 s j = if j = 3 then m 0 s 3 + max 0 (m 3 s q - x - rmF (m 23 p q) (ptC m p s q x) (m 22 p 0)) else m 0 s j := by
  unfold giveC
  rw [loseC_0, giveC_room]
  by_cases hj : j = 3
  · rw [if_pos hj, if_pos hj]
    show m 0 s 3 + max 0 (up3 m 3 s q (m 3 s q - x) 3 s q - _) = _
    rw [up3_at]
  · rw [if_neg hj, if_neg hj]; rfl
/-- what a description fixes, in its bounds -/
def BP (m : Mem) (p : Nat) : Prop := (1 ≤ m 22 p 0 ∧ m 22 p 0 ≤ 10000) ∧ (1 ≤ m 22 p 1 ∧ m 22 p 1 ≤ 10000) ∧ (0 ≤ m 22 p 2 ∧ m 22 p 2 ≤ 8) ∧ (0 ≤ m 22 p 3 ∧ m 22 p 3 ≤ 4) ∧ (0 ≤ m 22 p 4 ∧ m 22 p 4 ≤ 12) ∧ (0 ≤ m 22 p 5 ∧ m 22 p 5 ≤ 12) ∧ (0 ≤ m 22 p 6 ∧ m 22 p 6 ≤ 8) ∧
  (∀ q, 0 ≤ q → q < m 22 p 2 → (2 ≤ m 23 p q ∧ m 23 p q ≤ 100000) ∧ (m 24 p q = -1 ∨ 0 ≤ m 24 p q ∧ m 24 p q < m 22 p 3)) ∧
  (∀ f, 0 ≤ f → f < 4 * m 22 p 3 → 0 ≤ m 25 p f ∧ m 25 p f ≤ 1000) ∧
  (∀ q h, 0 ≤ q → q < m 22 p 2 → 0 ≤ h → h < 24 → 0 ≤ m 26 p (q * 24 + h) ∧ m 26 p (q * 24 + h) ≤ 120000) ∧
  (∀ a b, 0 ≤ a → a < m 22 p 2 → 0 ≤ b → b < m 22 p 2 → m 27 p (a * 8 + b) = -1 ∨ 0 ≤ m 27 p (a * 8 + b) ∧ m 27 p (a * 8 + b) < m 22 p 5) ∧
  (∀ c, 0 ≤ c → c < m 22 p 6 → (0 ≤ m 28 p c ∧ m 28 p c < m 22 p 2) ∧ (0 ≤ m 29 p c ∧ m 29 p c < m 22 p 2) ∧ (1 ≤ m 30 p c ∧ m 30 p c ≤ 100000) ∧ (0 ≤ m 31 p c ∧ m 31 p c ≤ 99) ∧ (0 ≤ m 32 p c ∧ m 32 p c ≤ 99) ∧ m 28 p c ≠ m 29 p c ∧ (0 ≤ m 27 p (m 28 p c * 8 + m 29 p c) ∧ m 27 p (m 28 p c * 8 + m 29 p c) < m 22 p 5))
theorem BP.congr {m m1 : Mem} {p : Nat} (h : BP m p) (e : ∀ k, 22 ≤ k → k < 33 → m1 k p = m k p) : BP m1 p := by
  unfold BP
  rw [e 22 (by decide) (by decide), e 23 (by decide) (by decide), e 24 (by decide) (by decide), e 25 (by decide) (by decide), e 26 (by decide) (by decide), e 27 (by decide) (by decide), e 28 (by decide) (by decide), e 29 (by decide) (by decide), e 30 (by decide) (by decide), e 31 (by decide) (by decide), e 32 (by decide) (by decide)]
  exact h
/-- a pack's numbers, a cable's, a trip's, a loan's -/
def Bq (m : Mem) (p s : Nat) (q : Int) : Prop := (0 ≤ m 3 s q ∧ m 3 s q ≤ roomC m p s q) ∧ (0 ≤ m 4 s q ∧ m 4 s q ≤ 1000000000) ∧ (0 ≤ m 5 s q ∧ m 5 s q ≤ 100000)
def Bc (m : Mem) (s : Nat) (c : Int) : Prop := (0 ≤ m 6 s c ∧ m 6 s c ≤ 900) ∧ (1 ≤ m 7 s c ∧ m 7 s c ≤ 10000) ∧ (0 ≤ m 8 s c ∧ m 8 s c ≤ 10000)
def Bt (m : Mem) (p s : Nat) (t : Int) : Prop := (0 ≤ m 11 s t ∧ m 11 s t < m 22 p 2) ∧ (0 ≤ m 12 s t ∧ m 12 s t ≤ 9999) ∧ (1 ≤ m 13 s t ∧ m 13 s t ≤ 100000) ∧ (0 ≤ m 14 s t ∧ m 14 s t ≤ 2)
def Bl (m : Mem) (p s : Nat) (l : Int) : Prop := (0 ≤ m 15 s l ∧ m 15 s l < m 22 p 6) ∧ (1 ≤ m 16 s l ∧ m 16 s l ≤ 100000) ∧ (0 ≤ m 17 s l ∧ m 17 s l ≤ m 16 s l) ∧ (0 ≤ m 18 s l ∧ m 18 s l ≤ 100000000) ∧ (0 ≤ m 19 s l ∧ m 19 s l ≤ m 17 s l + intC m p (m 18 s l) + 10000) ∧ (0 ≤ m 20 s l ∧ m 20 s l ≤ 5) ∧ (0 ≤ m 21 s l ∧ m 21 s l ≤ 11000)
def BS (m : Mem) (p s : Nat) : Prop := (0 ≤ m 0 s 0 ∧ m 0 s 0 ≤ 11000) ∧ (∀ q, 0 ≤ q → q < m 22 p 2 → Bq m p s q) ∧ (∀ c, 0 ≤ c → c < m 22 p 5 → Bc m s c) ∧ ((0 ≤ m 1 s 0 ∧ m 1 s 0 ≤ 16) ∧ ∀ t, 0 ≤ t → t < m 1 s 0 → Bt m p s t) ∧ ((0 ≤ m 2 s 0 ∧ m 2 s 0 ≤ 16) ∧ ∀ l, 0 ≤ l → l < m 2 s 0 → Bl m p s l) ∧ (∀ c, 0 ≤ c → c < m 22 p 6 → 0 ≤ m 10 s c ∧ m 10 s c ≤ 1)
def SN (m : Mem) (p s : Nat) : Prop := ∀ c, 0 ≤ c → c < m 22 p 5 → m 8 s c ≤ m 7 s c
theorem BS_pf {m : Mem} {p s : Nat} (hP : BP m p) (hS : BS m p s) {q : Int} (h0 : 0 ≤ q) (h1 : q < m 22 p 2) : PF m p s q := by
  have a := (hP.2.2.2.2.2.2.2.1 q h0 h1).1
  have b := hS.2.1 q h0 h1
  have n8 := hP.2.2.1
  have hd0 : 0 ≤ m 4 s q / m 22 p 0 := Int.ediv_nonneg b.2.1.1 (by have := hP.1; omega)
  have hr : roomC m p s q ≤ m 23 p q := by unfold roomC; omega
  exact ⟨⟨h0, by omega⟩, a, b.2.1, hP.1, b.1.1, by have := b.1.2; omega⟩
theorem BP_qf {m : Mem} {p : Nat} (hP : BP m p) {q : Int} (h0 : 0 ≤ q) (h1 : q < m 22 p 2) : QF m p q := by
  have a := (hP.2.2.2.2.2.2.2.1 q h0 h1).2
  have n4 := hP.2.2.2.1
  refine ⟨by omega, fun t ht0 ht1 => ?_⟩
  unfold factC
  split
  · omega
  · rename_i hne
    exact hP.2.2.2.2.2.2.2.2.1 _ (by omega) (by omega)
theorem BS_lf {m : Mem} {p s : Nat} (hP : BP m p) (hS : BS m p s) {l : Int} (h0 : 0 ≤ l) (h1 : l < m 2 s 0) : LF m p s l := by
  have b := hS.2.2.2.2.1.2 l h0 h1
  have n8 := hP.2.2.2.2.2.2.1
  have hi := intC_b b.2.2.2.1 hP.2.1
  refine ⟨by have := b.1; omega, by have := b.2.1; omega, b.2.2.1, b.2.2.2.1, ?_, b.2.2.2.2.2.1, hP.2.1⟩
  have := b.2.2.2.2.1; have := b.2.2.1; have := b.2.1; have := b.2.2.2.1
  omega
theorem roomC_mono {cap p1 p2 f : Int} (hf : 1 ≤ f) (h : p1 ≤ p2) : rmF cap p2 f ≤ rmF cap p1 f := by
  have := Int.ediv_le_ediv (a := p1) (b := p2) (c := f) (by omega) h
  unfold rmF
  omega
theorem rmF_pos {cap pts f : Int} (hc : 2 ≤ cap) : 1 ≤ rmF cap pts f := by unfold rmF; omega
theorem wearC_b {m : Mem} {p s : Nat} {q x : Int} (h : PF m p s q) (h2 : QF m p q) (hx : 0 ≤ x ∧ x ≤ 1000000) : 0 ≤ wearC m p s q x ∧ wearC m p s q x ≤ x * 1000 := by
  have hqb := quartC_b h
  have hfb := h2.2 _ hqb.1 hqb.2
  exact ⟨Int.mul_nonneg hx.1 hfb.1, Int.mul_le_mul_of_nonneg_left hfb.2 hx.1⟩
theorem ptC_b {m : Mem} {p s : Nat} {q x : Int} (h : PF m p s q) (h2 : QF m p q) (hx : 0 ≤ x ∧ x ≤ 1000000) : m 4 s q ≤ ptC m p s q x ∧ ptC m p s q x ≤ 1000000000 := by
  have hw := wearC_b h h2 hx
  have := h.2.2.1
  unfold ptC
  omega
/-- getting keeps the bounds -/
theorem BS_get {m : Mem} {p s : Nat} {q x : Int} (hP : BP m p) (hS : BS m p s) (h0 : 0 ≤ q) (h1 : q < m 22 p 2) (hx : 0 ≤ x) : BP (getC m p s q x) p ∧ BS (getC m p s q x) p s := by
  have hk : ∀ k, k ≠ 3 → k ≠ 0 → getC m p s q x k = m k := fun k a b => getC_k a b
  refine ⟨hP.congr (fun k a b => by rw [hk k (by omega) (by omega)]), ?_⟩
  have hpf := BS_pf hP hS h0 h1
  have hrb := roomC_b hpf
  have hr : ∀ q', roomC (getC m p s q x) p s q' = roomC m p s q' := fun q' => by unfold roomC; rw [hk 23 (by decide) (by decide), hk 4 (by decide) (by decide), hk 22 (by decide) (by decide)]
  unfold BS
  rw [hk 22 (by decide) (by decide), hk 1 (by decide) (by decide), hk 2 (by decide) (by decide), hk 10 (by decide) (by decide)]
  refine ⟨?_, fun q' a b => ?_, fun c a b => ?_, ⟨hS.2.2.2.1.1, fun t a b => ?_⟩, ⟨hS.2.2.2.2.1.1, fun l a b => ?_⟩, hS.2.2.2.2.2⟩
  · rw [getC_0, if_neg (by decide)]; exact hS.1
  · have hb := hS.2.1 q' a b
    unfold Bq
    rw [hk 4 (by decide) (by decide), hk 5 (by decide) (by decide), hr, getC_3]
    refine ⟨?_, hb.2⟩
    split
    · rename_i e; subst e; have := hb.1; omega
    · exact hb.1
  · unfold Bc
    rw [hk 6 (by decide) (by decide), hk 7 (by decide) (by decide), hk 8 (by decide) (by decide)]
    exact hS.2.2.1 c a b
  · unfold Bt
    rw [hk 11 (by decide) (by decide), hk 12 (by decide) (by decide), hk 13 (by decide) (by decide), hk 14 (by decide) (by decide), hk 22 (by decide) (by decide)]
    exact hS.2.2.2.1.2 t a b
  · unfold Bl intC
    rw [hk 15 (by decide) (by decide), hk 16 (by decide) (by decide), hk 17 (by decide) (by decide), hk 18 (by decide) (by decide), hk 19 (by decide) (by decide), hk 20 (by decide) (by decide), hk 21 (by decide) (by decide), hk 22 (by decide) (by decide)]
    exact hS.2.2.2.2.1.2 l a b
/-- giving keeps the bounds -/
theorem BS_give {m : Mem} {p s : Nat} {q x : Int} (hP : BP m p) (hS : BS m p s) (h0 : 0 ≤ q) (h1 : q < m 22 p 2) (hx : 0 ≤ x ∧ x ≤ m 3 s q) : BP (giveC m p s q x) p ∧ BS (giveC m p s q x) p s := by
  have hk : ∀ k, k ≠ 3 → k ≠ 0 → k ≠ 4 → giveC m p s q x k = m k := fun k a b c => giveC_k a b c
  refine ⟨hP.congr (fun k a b => by rw [hk k (by omega) (by omega) (by omega)]), ?_⟩
  have hpf := BS_pf hP hS h0 h1
  have hqf := BP_qf hP h0 h1
  have hrb := roomC_b hpf
  have hpt := ptC_b hpf hqf (x := x) ⟨hx.1, by have := hpf.2.2.2.2; omega⟩
  have hp1 := rmF_pos (cap := m 23 p q) (pts := ptC m p s q x) (f := m 22 p 0) hpf.2.1.1
  unfold BS
  rw [hk 22 (by decide) (by decide) (by decide), hk 1 (by decide) (by decide) (by decide), hk 2 (by decide) (by decide) (by decide), hk 10 (by decide) (by decide) (by decide)]
  refine ⟨?_, fun q' a b => ?_, fun c a b => ?_, ⟨hS.2.2.2.1.1, fun t a b => ?_⟩, ⟨hS.2.2.2.2.1.1, fun l a b => ?_⟩, hS.2.2.2.2.2⟩
  · rw [giveC_0, if_neg (by decide)]; exact hS.1
  · have hb := hS.2.1 q' a b
    unfold Bq
    rw [roomC_F, hk 5 (by decide) (by decide) (by decide), hk 23 (by decide) (by decide) (by decide), hk 22 (by decide) (by decide) (by decide), giveC_3, giveC_4]
    have hb1 := hb.1
    rw [roomC_F] at hb1
    split
    · rename_i e; subst e
      have := hpf.2.2.1
      refine ⟨?_, by omega, hb.2.2⟩
      omega
    · exact ⟨hb1, hb.2⟩
  · unfold Bc
    rw [hk 6 (by decide) (by decide) (by decide), hk 7 (by decide) (by decide) (by decide), hk 8 (by decide) (by decide) (by decide)]
    exact hS.2.2.1 c a b
  · unfold Bt
    rw [hk 11 (by decide) (by decide) (by decide), hk 12 (by decide) (by decide) (by decide), hk 13 (by decide) (by decide) (by decide), hk 14 (by decide) (by decide) (by decide), hk 22 (by decide) (by decide) (by decide)]
    exact hS.2.2.2.1.2 t a b
  · unfold Bl intC
    rw [hk 15 (by decide) (by decide) (by decide), hk 16 (by decide) (by decide) (by decide), hk 17 (by decide) (by decide) (by decide), hk 18 (by decide) (by decide) (by decide), hk 19 (by decide) (by decide) (by decide), hk 20 (by decide) (by decide) (by decide), hk 21 (by decide) (by decide) (by decide), hk 22 (by decide) (by decide) (by decide)]
    exact hS.2.2.2.2.1.2 l a b
