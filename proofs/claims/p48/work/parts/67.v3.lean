/-! what each act does, on both sides -/
theorem R_res {m : Mem} {p s : Nat} {N : Int → Int} {c z : Int} (hP : BP m p) (hB : NB m s) (hR : RP m p N) (hS : RS m p s N) (h0 : 0 ≤ c) (h1 : c < m 22 p 2) : RP (up3 m 5 s c z) p (upN N (30 + 7 * c + 4) z) ∧ RS (up3 m 5 s c z) p s (upN N (30 + 7 * c + 4) z) := by
  have hk : ∀ k, k ≠ 5 → up3 m 5 s c z k = m k := fun k h => up3_k h
  have n8 := hP.2.2.1
  have n12 := hP.2.2.2.2.2.1
  have nc := hP.2.2.2.2.2.2.1
  have n16 := hB.1
  have n16b := hB.2
  have ho : ∀ j, j ≠ 30 + 7 * c + 4 → upN N (30 + 7 * c + 4) z j = N j := fun j a => upN_off a
  refine ⟨hR.congr hP (fun k a b => by rw [hk k (by omega)]) (fun j hj => ho j (by unfold plI at hj; omega)), ?_⟩
  obtain ⟨r1, r2, r3, r4, r5, r6, r7⟩ := hS
  refine ⟨?_, fun q' a b => ?_, fun q' a b => ?_, fun c' a b => ?_, fun t' a b => ?_, fun c' a b => ?_, fun l' a b => ?_⟩
  · obtain ⟨a1, a2, a3, a4, a5, a6, a7⟩ := r1
    exact ⟨by rw [ho _ (by omega)]; exact a1, by rw [ho _ (by omega)]; exact a2, by rw [ho _ (by omega)]; exact a3, by rw [ho _ (by omega)]; exact a4, by rw [ho _ (by omega)]; exact a5, by rw [ho _ (by omega)]; exact a6, by rw [ho _ (by omega)]; exact a7⟩
  · rw [hk 22 (by decide)] at b
    have k := r2 q' a b
    by_cases q : q' = c
    · subst q; rw [upN_at, up3_at, ho _ (by omega), ho _ (by omega)]; exact ⟨k.1, k.2.1, rfl⟩
    · rw [up3_off q, ho _ (by omega), ho _ (by omega), ho _ (by omega)]; exact k
  · rw [hk 22 (by decide)] at b
    rw [ho _ (by omega), ho _ (by omega)]
    exact r3 q' a b
  · rw [hk 22 (by decide)] at b
    rw [ho _ (by omega), ho _ (by omega), ho _ (by omega)]
    exact r4 c' a b
  · rw [hk 1 (by decide)] at b
    rw [ho _ (by omega), ho _ (by omega), ho _ (by omega), ho _ (by omega)]
    exact r5 t' a b
  · rw [hk 22 (by decide)] at b
    rw [ho _ (by omega)]
    exact r6 c' a b
  · rw [hk 2 (by decide)] at b
    rw [ho _ (by omega), ho _ (by omega), ho _ (by omega), ho _ (by omega), ho _ (by omega), ho _ (by omega), ho _ (by omega)]
    exact r7 l' a b
theorem R_los {m : Mem} {p s : Nat} {N : Int → Int} {c z : Int} (hP : BP m p) (hB : NB m s) (hR : RP m p N) (hS : RS m p s N) (h0 : 0 ≤ c) (h1 : c < m 22 p 5) : RP (up3 m 6 s c z) p (upN N (86 + 6 * c + 2) z) ∧ RS (up3 m 6 s c z) p s (upN N (86 + 6 * c + 2) z) := by
  have hk : ∀ k, k ≠ 6 → up3 m 6 s c z k = m k := fun k h => up3_k h
  have n8 := hP.2.2.1
  have n12 := hP.2.2.2.2.2.1
  have nc := hP.2.2.2.2.2.2.1
  have n16 := hB.1
  have n16b := hB.2
  have ho : ∀ j, j ≠ 86 + 6 * c + 2 → upN N (86 + 6 * c + 2) z j = N j := fun j a => upN_off a
  refine ⟨hR.congr hP (fun k a b => by rw [hk k (by omega)]) (fun j hj => ho j (by unfold plI at hj; omega)), ?_⟩
  obtain ⟨r1, r2, r3, r4, r5, r6, r7⟩ := hS
  refine ⟨?_, fun q' a b => ?_, fun q' a b => ?_, fun c' a b => ?_, fun t' a b => ?_, fun c' a b => ?_, fun l' a b => ?_⟩
  · obtain ⟨a1, a2, a3, a4, a5, a6, a7⟩ := r1
    exact ⟨by rw [ho _ (by omega)]; exact a1, by rw [ho _ (by omega)]; exact a2, by rw [ho _ (by omega)]; exact a3, by rw [ho _ (by omega)]; exact a4, by rw [ho _ (by omega)]; exact a5, by rw [ho _ (by omega)]; exact a6, by rw [ho _ (by omega)]; exact a7⟩
  · rw [hk 22 (by decide)] at b
    rw [ho _ (by omega), ho _ (by omega), ho _ (by omega)]
    exact r2 q' a b
  · rw [hk 22 (by decide)] at b
    rw [ho _ (by omega), ho _ (by omega)]
    exact r3 q' a b
  · rw [hk 22 (by decide)] at b
    have k := r4 c' a b
    by_cases q : c' = c
    · subst q; rw [upN_at, up3_at, ho _ (by omega), ho _ (by omega)]; exact ⟨rfl, k.2.1, k.2.2⟩
    · rw [up3_off q, ho _ (by omega), ho _ (by omega), ho _ (by omega)]; exact k
  · rw [hk 1 (by decide)] at b
    rw [ho _ (by omega), ho _ (by omega), ho _ (by omega), ho _ (by omega)]
    exact r5 t' a b
  · rw [hk 22 (by decide)] at b
    rw [ho _ (by omega)]
    exact r6 c' a b
  · rw [hk 2 (by decide)] at b
    rw [ho _ (by omega), ho _ (by omega), ho _ (by omega), ho _ (by omega), ho _ (by omega), ho _ (by omega), ho _ (by omega)]
    exact r7 l' a b
theorem R_cap {m : Mem} {p s : Nat} {N : Int → Int} {c z : Int} (hP : BP m p) (hB : NB m s) (hR : RP m p N) (hS : RS m p s N) (h0 : 0 ≤ c) (h1 : c < m 22 p 5) : RP (up3 m 7 s c z) p (upN N (86 + 6 * c + 3) z) ∧ RS (up3 m 7 s c z) p s (upN N (86 + 6 * c + 3) z) := by
  have hk : ∀ k, k ≠ 7 → up3 m 7 s c z k = m k := fun k h => up3_k h
  have n8 := hP.2.2.1
  have n12 := hP.2.2.2.2.2.1
  have nc := hP.2.2.2.2.2.2.1
  have n16 := hB.1
  have n16b := hB.2
  have ho : ∀ j, j ≠ 86 + 6 * c + 3 → upN N (86 + 6 * c + 3) z j = N j := fun j a => upN_off a
  refine ⟨hR.congr hP (fun k a b => by rw [hk k (by omega)]) (fun j hj => ho j (by unfold plI at hj; omega)), ?_⟩
  obtain ⟨r1, r2, r3, r4, r5, r6, r7⟩ := hS
  refine ⟨?_, fun q' a b => ?_, fun q' a b => ?_, fun c' a b => ?_, fun t' a b => ?_, fun c' a b => ?_, fun l' a b => ?_⟩
  · obtain ⟨a1, a2, a3, a4, a5, a6, a7⟩ := r1
    exact ⟨by rw [ho _ (by omega)]; exact a1, by rw [ho _ (by omega)]; exact a2, by rw [ho _ (by omega)]; exact a3, by rw [ho _ (by omega)]; exact a4, by rw [ho _ (by omega)]; exact a5, by rw [ho _ (by omega)]; exact a6, by rw [ho _ (by omega)]; exact a7⟩
  · rw [hk 22 (by decide)] at b
    rw [ho _ (by omega), ho _ (by omega), ho _ (by omega)]
    exact r2 q' a b
  · rw [hk 22 (by decide)] at b
    rw [ho _ (by omega), ho _ (by omega)]
    exact r3 q' a b
  · rw [hk 22 (by decide)] at b
    have k := r4 c' a b
    by_cases q : c' = c
    · subst q; rw [upN_at, up3_at, ho _ (by omega), ho _ (by omega)]; exact ⟨k.1, rfl, k.2.2⟩
    · rw [up3_off q, ho _ (by omega), ho _ (by omega), ho _ (by omega)]; exact k
  · rw [hk 1 (by decide)] at b
    rw [ho _ (by omega), ho _ (by omega), ho _ (by omega), ho _ (by omega)]
    exact r5 t' a b
  · rw [hk 22 (by decide)] at b
    rw [ho _ (by omega)]
    exact r6 c' a b
  · rw [hk 2 (by decide)] at b
    rw [ho _ (by omega), ho _ (by omega), ho _ (by omega), ho _ (by omega), ho _ (by omega), ho _ (by omega), ho _ (by omega)]
    exact r7 l' a b
theorem BS_up5 {m : Mem} {p s : Nat} {j z : Int} (hz : 0 ≤ z ∧ z ≤ 100000) (h : BS m p s) : BS (up3 m 5 s j z) p s := ⟨h.1, fun c a b => ⟨(h.2.1 c a b).1, (h.2.1 c a b).2.1, by
  by_cases q : c = j
  · subst q; rw [up3_at]; exact hz
  · rw [up3_off q]; exact (h.2.1 c a b).2.2⟩, h.2.2⟩
theorem BS_up6 {m : Mem} {p s : Nat} {j z : Int} (hz : 0 ≤ z ∧ z ≤ 900) (h : BS m p s) : BS (up3 m 6 s j z) p s := ⟨h.1, h.2.1, fun c a b => ⟨by
  by_cases q : c = j
  · subst q; rw [up3_at]; exact hz
  · rw [up3_off q]; exact (h.2.2.1 c a b).1, (h.2.2.1 c a b).2⟩, h.2.2.2⟩
theorem BS_up7 {m : Mem} {p s : Nat} {j z : Int} (hz : 1 ≤ z ∧ z ≤ 10000) (h : BS m p s) : BS (up3 m 7 s j z) p s := ⟨h.1, h.2.1, fun c a b => ⟨(h.2.2.1 c a b).1, by
  by_cases q : c = j
  · subst q; rw [up3_at]; exact hz
  · rw [up3_off q]; exact (h.2.2.1 c a b).2.1, (h.2.2.1 c a b).2.2⟩, h.2.2.2⟩
theorem BS_up20 {m : Mem} {p s : Nat} {l z : Int} (hz : 0 ≤ z ∧ z ≤ 5) (h : BS m p s) (h0 : 0 ≤ l) (h1 : l < m 2 s 0) : BS (up3 m 20 s l z) p s := by
  have b := h.2.2.2.2.1.2 l h0 h1
  refine BS_loan (l := l) h (fun k e => up3_k (by omega)) ?_ (fun j e k => ?_)
  · unfold Bl at b ⊢
    rw [up3_at]
    exact ⟨b.1, b.2.1, b.2.2.1, b.2.2.2.1, b.2.2.2.2.1, hz, b.2.2.2.2.2.2⟩
  · by_cases g : k = 20
    · subst g; exact up3_off e
    · rw [up3_k g]
theorem BS_up21 {m : Mem} {p s : Nat} {l z : Int} (hz : 0 ≤ z ∧ z ≤ 11000) (h : BS m p s) (h0 : 0 ≤ l) (h1 : l < m 2 s 0) : BS (up3 m 21 s l z) p s := by
  have b := h.2.2.2.2.1.2 l h0 h1
  refine BS_loan (l := l) h (fun k e => up3_k (by omega)) ?_ (fun j e k => ?_)
  · unfold Bl at b ⊢
    rw [up3_at]
    exact ⟨b.1, b.2.1, b.2.2.1, b.2.2.2.1, b.2.2.2.2.1, b.2.2.2.2.2.1, hz⟩
  · by_cases g : k = 21
    · subst g; exact up3_off e
    · rw [up3_k g]
section WW
variable {c : Mem} {p s : Nat} {N : Int → Int} {K : Nat}
theorem ST.of {c' : Mem} {N' : Int → Int} {K' : Nat} (h : ST c p s N K) (hP : BP c' p) (hB : BS c' p s) (hR : RP c' p N' ∧ RS c' p s N') (e8 : c' 8 s = c 8 s) (e8N : ∀ i, 0 ≤ i → i < 12 → N' (86 + 6 * i + 4) = N (86 + 6 * i + 4)) (e22 : c' 22 p = c 22 p) (hC : CE c' p s 0) (hT : c' 0 s 0 ≤ 9999) (hK : c' 0 s 1 ≤ 800000 + 120000 * c' 0 s 0 + 100000 * K') : ST c' p s N' K' := by
  obtain ⟨h1, h2, h3, h4, h5, h6, h7, h8⟩ := h
  refine ⟨hP, hB, hR.1, hR.2, fun i a b => ?_, hC, hT, hK⟩
  rw [e22] at b
  rw [e8, e8N i a (by have := h1.2.2.2.2.2.1; omega)]
  exact h5 i a b
/-- one part changed that counts for nothing in the sums -/
theorem ST.of1 {k : Nat} {j z : Int} {N' : Int → Int} (h : ST c p s N K) (hk : k ≠ 0 ∧ k ≠ 3 ∧ k ≠ 8 ∧ k ≠ 9 ∧ k < 22) (hB : BS (up3 c k s j z) p s) (hR : RP (up3 c k s j z) p N' ∧ RS (up3 c k s j z) p s N') (e8N : ∀ i, 0 ≤ i → i < 12 → N' (86 + 6 * i + 4) = N (86 + 6 * i + 4)) : ST (up3 c k s j z) p s N' K := by
  have e : ∀ x, x ≠ k → up3 c k s j z x = c x := fun x g => up3_k g
  refine h.of (h.1.congr (fun k' a b => by rw [e k' (by omega)])) hB hR (by rw [e 8 (by omega)]) e8N (by rw [e 22 (by omega)]) (h.2.2.2.2.2.1.k (e 0 (by omega) ▸ rfl) (e 3 (by omega) ▸ rfl) (e 9 (by omega) ▸ rfl) (e 22 (by omega) ▸ rfl)) ?_ ?_
  · rw [e 0 (by omega)]; exact h.2.2.2.2.2.2.1
  · rw [e 0 (by omega)]; exact h.2.2.2.2.2.2.2
theorem ST.mend (h : ST c p s N K) {a : Int} (h0 : 0 ≤ a) (h1 : a < c 22 p 6) : ST (up3 c 10 s a 0) p s (upN N (270 + 6 * a + 5) 0) K :=
  h.of1 (by decide) (BS_up10 (by decide) h.2.1) (R_broken rfl h.1 (BS_nb h.2.1) h.2.2.1 h.2.2.2.1 h0 h1) (fun i a b => upN_off (by omega))
theorem ST.reserve (h : ST c p s N K) {a x : Int} (h0 : 0 ≤ a) (h1 : a < c 22 p 2) (hx : 0 ≤ x ∧ x ≤ 100000) : ST (up3 c 5 s a x) p s (upN N (30 + 7 * a + 4) x) K :=
  h.of1 (by decide) (BS_up5 hx h.2.1) (R_res h.1 (BS_nb h.2.1) h.2.2.1 h.2.2.2.1 h0 h1) (fun i a b => upN_off (by have := h.1.2.2.1; omega))
theorem ST.cable (h : ST c p s N K) {a x y : Int} (h0 : 0 ≤ a) (h1 : a < c 22 p 5) (hx : 0 ≤ x ∧ x ≤ 900) (hy : 1 ≤ y ∧ y ≤ 10000) : ST (up3 (up3 c 6 s a x) 7 s a y) p s (upN (upN N (86 + 6 * a + 2) x) (86 + 6 * a + 3) y) K := by
  have g : ST (up3 c 6 s a x) p s (upN N (86 + 6 * a + 2) x) K := h.of1 (by decide) (BS_up6 hx h.2.1) (R_los h.1 (BS_nb h.2.1) h.2.2.1 h.2.2.2.1 h0 h1) (fun i a b => upN_off (by omega))
  exact g.of1 (by decide) (BS_up7 hy g.2.1) (R_cap g.1 (BS_nb g.2.1) g.2.2.1 g.2.2.2.1 h0 (by rw [up3_k (by decide)]; exact h1)) (fun i a b => upN_off (by omega))
theorem ST.forgive (h : ST c p s N K) {l : Int} (h0 : 0 ≤ l) (h1 : l < c 2 s 0) : ST (up3 c 20 s l 5) p s (upN N (318 + 7 * l + 5) 5) K :=
  h.of1 (by decide) (BS_up20 (by decide) h.2.1 h0 h1) (R_loan20 rfl h.1 (BS_nb h.2.1) h.2.2.1 h.2.2.2.1 h0 h1) (fun i a b => upN_off (by omega))
theorem ST.bring (h : ST c p s N K) {l t t' : Int} (h0 : 0 ≤ l) (h1 : l < c 2 s 0) (ht : 0 ≤ t ∧ t ≤ 11000) (e : t' = min (N (318 + 7 * l + 6)) t) : ST (brF c s l t) p s (upN N (318 + 7 * l + 6) t') K := by
  have k := (h.2.2.2.1.2.2.2.2.2.2 l h0 h1).2.2.2.2.2.2
  unfold brF
  by_cases g : t < c 21 s l
  · rw [if_pos g, show t' = t by omega]
    exact h.of1 (by decide) (BS_up21 ht h.2.1 h0 h1) (R_loan21 rfl h.1 (BS_nb h.2.1) h.2.2.1 h.2.2.2.1 h0 h1) (fun i a b => upN_off (by omega))
  · rw [if_neg g]
    refine h.rw (fun j a b => ?_)
    unfold upN
    split
    · next z => rw [z]; omega
    · rfl
theorem ST.charge (h : ST c p s N K) {a x : Int} (h0 : 0 ≤ a) (h1 : a < c 22 p 2) (hx : 1 ≤ x ∧ x ≤ 100000) : ST (getC (up3 c 0 s 1 (c 0 s 1 + x)) p s a x) p s (getN (upN N 10 (N 10 + x)) a x) (K + 1) := by
  have n8 := h.1.2.2.1
  have e10 := h.2.2.2.1.1.2.1
  have u := R_up10 (z := c 0 s 1 + x) (z' := N 10 + x) (by rw [e10]) h.1 h.2.1 h.2.2.1 h.2.2.2.1
  have uP : BP (up3 c 0 s 1 (c 0 s 1 + x)) p := h.1.congr (fun k' a b => by rw [up3_k (by omega)])
  have uB : BS (up3 c 0 s 1 (c 0 s 1 + x)) p s := BS_up0 (by decide) h.2.1
  have g := R_get (x := x) uP uB u.1 u.2 h0 (by rw [up3_k (by decide)]; exact h1)
  have b := BS_get (x := x) uP uB h0 (by rw [up3_k (by decide)]; exact h1) (by omega)
  have ce := CE_get (x := x) (CE_up1 (g := x) h.2.2.2.2.2.1) h0 (by rw [up3_k (by decide)]; exact h1)
  refine h.of b.1 b.2 g (by rw [getC_k (by decide) (by decide), up3_k (by decide)]) (fun i i0 i1 => ?_) (by rw [getC_k (by decide) (by decide), up3_k (by decide)]) (ce.d (by omega)) ?_ ?_
  · unfold getN spillN spill1
    rw [upN_off (by omega), upN_off (by omega), upN_off (by omega), upN_off (by omega)]
  · rw [getC_0, if_neg (by decide), up3_off (by decide)]; exact h.2.2.2.2.2.2.1
  · rw [getC_0, if_neg (by decide), up3_at, getC_0, if_neg (by decide), up3_off (by decide)]
    have := h.2.2.2.2.2.2.2
    omega
theorem ST.drain (h : ST c p s N K) {a x : Int} (h0 : 0 ≤ a) (h1 : a < c 22 p 2) (hx : 0 ≤ x ∧ x ≤ c 3 s a) : ST (giveC (up3 c 0 s 2 (c 0 s 2 + x)) p s a x) p s (giveN (upN N 11 (N 11 + x)) a x) K := by
  have n8 := h.1.2.2.1
  have e11 := h.2.2.2.1.1.2.2.1
  have u := R_up11 (z := c 0 s 2 + x) (z' := N 11 + x) (by rw [e11]) h.1 h.2.1 h.2.2.1 h.2.2.2.1
  have uP : BP (up3 c 0 s 2 (c 0 s 2 + x)) p := h.1.congr (fun k' a b => by rw [up3_k (by omega)])
  have uB : BS (up3 c 0 s 2 (c 0 s 2 + x)) p s := BS_up0 (by decide) h.2.1
  have g := R_give (x := x) uP uB u.1 u.2 h0 (by rw [up3_k (by decide)]; exact h1)
  have b := BS_give (x := x) uP uB h0 (by rw [up3_k (by decide)]; exact h1) (by rw [up3_k (by decide)]; exact hx)
  have ce := CE_give (x := x) (CE_up2 (x := x) h.2.2.2.2.2.1 hx.1) h0 (by rw [up3_k (by decide)]; exact h1)
  refine h.of b.1 b.2 g (by rw [giveC_k (by decide) (by decide) (by decide), up3_k (by decide)]) (fun i i0 i1 => ?_) (by rw [giveC_k (by decide) (by decide) (by decide), up3_k (by decide)]) (ce.d (by omega)) ?_ ?_
  · unfold giveN spillN spill1 give1
    rw [upN_off (by omega), upN_off (by omega), upN_off (by omega), upN_off (by omega), upN_off (by omega)]
  · rw [giveC_0, if_neg (by decide), up3_off (by decide)]; exact h.2.2.2.2.2.2.1
  · rw [giveC_0, if_neg (by decide), up3_off (by decide), giveC_0, if_neg (by decide), up3_off (by decide)]
    exact h.2.2.2.2.2.2.2
/-- hours pass -/
theorem ST.tick (h : ST c p s N K) (ht : c 0 s 0 < 9999) : ST (tkC c p s) p s (tkN N) K := by
  have b := tkC_f h.1 h.2.1 (by omega)
  have r := (R_tk h.1 h.2.1 h.2.2.1 h.2.2.2.1).2.2.2.2.2
  have ce := CE_tk h.1 h.2.1 h.2.2.1 h.2.2.2.2.2.1
  refine ⟨b.1, b.2, r.1, r.2.1, r.2.2, ce.1, by rw [tkC_t]; omega, ?_⟩
  rw [tkC_t]
  have := h.2.2.2.2.2.2.2
  omega
theorem ST.ticks : ∀ (n : Nat) {c : Mem} {N : Int → Int}, ST c p s N K → c 0 s 0 + n ≤ 9999 → ST (tkL c p s n) p s (tkNL N n) K := by
  intro n
  induction n with
  | zero => intro c N h _; exact h
  | succ n ih =>
    intro c N h ht
    exact ih (h.tick (by omega)) (by rw [tkC_t]; omega)
theorem V_te : ∀ (n : Nat) {c : Mem} {N : Int → Int} {l : Int}, BP c p → BS c p s → RP c p N → RS c p s N → 0 ≤ l → l < c 2 s 0 → c 0 s 0 + n ≤ 11000 → RP (teM c p s l n) p (enR N l n) ∧ RS (teM c p s l n) p s (enR N l n) ∧ teN c p s l n = enC N l n ∧ l < teM c p s l n 2 s 0 := by
  intro n
  induction n with
  | zero => intro c N l hP hB hR hS h0 h1 ht; exact ⟨hR, hS, rfl, h1⟩
  | succ n ih =>
    intro c N l hP hB hR hS h0 h1 ht
    have k := (hS.2.2.2.2.2.2 l h0 h1).2.2.2.2.2.1
    have b := tkC_f hP hB (by omega)
    have r := (R_tk hP hB hR hS).2.2.2.2.2
    unfold teM enR teN enC
    rw [k]
    by_cases g : c 20 s l ≤ 2
    · rw [if_pos g, if_pos g, if_pos g, if_pos g]
      have i := ih b.1 b.2 r.1 r.2.1 h0 (by rw [tkC_k (by decide)]; exact h1) (by rw [tkC_t]; omega)
      exact ⟨i.1, i.2.1, by rw [i.2.2.1], i.2.2.2⟩
    · rw [if_neg g, if_neg g, if_neg g, if_neg g]
      exact ⟨hR, hS, rfl, h1⟩
theorem ST.closed : ∀ (n : Nat) {c : Mem} {N : Int → Int} {l : Int}, ST c p s N K → 0 ≤ l → l < c 2 s 0 → c 0 s 0 + n ≤ 9999 → ST (teM c p s l n) p s (enR N l n) K := by
  intro n
  induction n with
  | zero => intro c N l h h0 h1 _; exact h
  | succ n ih =>
    intro c N l h h0 h1 ht
    have k := (h.2.2.2.1.2.2.2.2.2.2 l h0 h1).2.2.2.2.2.1
    unfold teM enR
    rw [k]
    by_cases g : c 20 s l ≤ 2
    · rw [if_pos g, if_pos g]
      exact ih (h.tick (by omega)) h0 (by rw [tkC_k (by decide)]; exact h1) (by rw [tkC_t]; omega)
    · rw [if_neg g, if_neg g]; exact h
end WW
