/-! a loan added, a trip added, a trip taken away -/
theorem zeN_v (l : Int) : ∀ (n : Nat) (N : Int → Int) (w x : Int), zeN N l w n x = if 318 + 7 * l + w ≤ x ∧ x < 318 + 7 * l + w + n then 0 else N x := by
  intro n
  induction n with
  | zero => intro N w x; rw [if_neg (by omega)]; rfl
  | succ n ih =>
    intro N w x
    show zeN (upN N (318 + 7 * l + w) 0) l (w + 1) n x = _
    rw [ih]
    by_cases g : x = 318 + 7 * l + w
    · rw [if_neg (by omega), if_pos (by omega), g, upN_at]
    · rw [upN_off g]
      by_cases g2 : 318 + 7 * l + (w + 1) ≤ x ∧ x < 318 + 7 * l + (w + 1) + n
      · rw [if_pos g2, if_pos (by omega)]
      · rw [if_neg g2, if_neg (by omega)]
theorem ldN_v (N : Int → Int) (c x k : Int) (h9 : 0 ≤ N 9) (j : Int) : ldN N c x k j = if j = 9 then N 9 + 1 else if j = 318 + 7 * N 9 + 6 then N 2 + k else if j = 318 + 7 * N 9 + 1 then x else if j = 318 + 7 * N 9 + 0 then c else if 318 + 7 * N 9 + 0 ≤ j ∧ j < 318 + 7 * N 9 + 0 + 7 then 0 else N j := by
  have e3 : ∀ i, i ≠ 318 + 7 * N 9 + 1 → i ≠ 318 + 7 * N 9 + 0 → ldN3 N c x i = if 318 + 7 * N 9 + 0 ≤ i ∧ i < 318 + 7 * N 9 + 0 + 7 then 0 else N i := fun i a b => by
    unfold ldN3
    rw [upN_off a, upN_off b, zeN_v]
    rfl
  have e9 : ldN4 N c x k 9 = N 9 := by
    unfold ldN4
    rw [upN_off (by omega), e3 9 (by omega) (by omega), if_neg (by omega)]
  have e2 : ldN3 N c x 2 = N 2 := by
    rw [e3 2 (by omega) (by omega), if_neg (by omega)]
  unfold ldN
  by_cases g : j = 9
  · rw [if_pos g, g, upN_at, e9]
  · rw [if_neg g, upN_off g]
    unfold ldN4
    by_cases g6 : j = 318 + 7 * N 9 + 6
    · rw [if_pos g6, g6, upN_at, e2]
    · rw [if_neg g6, upN_off g6]
      by_cases g1 : j = 318 + 7 * N 9 + 1
      · rw [if_pos g1, g1]; unfold ldN3; rw [upN_at]
      · rw [if_neg g1]
        by_cases g0 : j = 318 + 7 * N 9 + 0
        · rw [if_pos g0, g0]; unfold ldN3; rw [upN_off (by omega), upN_at]
        · rw [if_neg g0, e3 j g1 g0]
theorem R_addL {m : Mem} {p s : Nat} {N : Int → Int} {c x k t : Int} (hP : BP m p) (hB : BS m p s) (hR : RP m p N) (hS : RS m p s N) (ht : t = m 0 s 0 + k) (hn : m 2 s 0 < 16) : RP (addL m s c x t) p (ldN N c x k) ∧ RS (addL m s c x t) p s (ldN N c x k) := by
  have E := addL_at m s c x t
  have hk : ∀ k, (k ≠ 2 ∧ ¬ (15 ≤ k ∧ k ≤ 21)) → addL m s c x t k = m k := fun k h => addL_k h
  have n8 := hP.2.2.1
  have n12 := hP.2.2.2.2.2.1
  have nc := hP.2.2.2.2.2.2.1
  have n16 := hB.2.2.2.1.1
  have n16b := hB.2.2.2.2.1.1
  have f9 : N 9 = m 2 s 0 := hS.1.2.2.2.2.2.2
  have f2 : N 2 = m 0 s 0 := hS.1.1
  have V := ldN_v N c x k (by omega)
  have ho : ∀ j, j ≠ 9 → (j < 318 + 7 * N 9 ∨ 318 + 7 * N 9 + 7 ≤ j) → ldN N c x k j = N j := fun j a b => by
    rw [V, if_neg a, if_neg (by omega), if_neg (by omega), if_neg (by omega), if_neg (by omega)]
  refine ⟨hR.congr hP (fun k a b => by rw [hk k (by omega)]) (fun j hj => ho j (by unfold plI at hj; omega) (by unfold plI at hj; omega)), ?_⟩
  obtain ⟨r1, r2, r3, r4, r5, r6, r7⟩ := hS
  refine ⟨?_, fun q' a b => ?_, fun q' a b => ?_, fun c' a b => ?_, fun t' a b => ?_, fun c' a b => ?_, fun l' a b => ?_⟩
  · obtain ⟨a1, a2, a3, a4, a5, a6, a7⟩ := r1
    unfold R1
    rw [hk 0 (by omega), hk 9 (by omega), hk 1 (by omega), hk 22 (by omega), (E 0).2.2.2.2.2.2.2]
    exact ⟨by rw [ho _ (by omega) (by omega)]; exact a1, by rw [ho _ (by omega) (by omega)]; exact a2, by rw [ho _ (by omega) (by omega)]; exact a3, by rw [ho _ (by omega) (by omega)]; exact a4, by rw [ho _ (by omega) (by omega)]; exact a5, by rw [ho _ (by omega) (by omega)]; exact a6, by rw [V, if_pos rfl, f9]⟩
  · rw [hk 22 (by omega)] at b
    rw [ho _ (by omega) (by omega), ho _ (by omega) (by omega), ho _ (by omega) (by omega), hk 3 (by omega), hk 4 (by omega), hk 5 (by omega)]
    exact r2 q' a b
  · rw [hk 22 (by omega)] at b
    have en : ∀ st, numC (addL m s c x t) s q' st = numC m s q' st := fun st => by funext i; unfold numC; rw [hk 11 (by omega), hk 14 (by omega)]
    rw [ho _ (by omega) (by omega), ho _ (by omega) (by omega), en, en, hk 1 (by omega)]
    exact r3 q' a b
  · rw [hk 22 (by omega)] at b
    rw [ho _ (by omega) (by omega), ho _ (by omega) (by omega), ho _ (by omega) (by omega), hk 6 (by omega), hk 7 (by omega), hk 9 (by omega)]
    exact r4 c' a b
  · rw [hk 1 (by omega)] at b
    rw [ho _ (by omega) (by omega), ho _ (by omega) (by omega), ho _ (by omega) (by omega), ho _ (by omega) (by omega), hk 11 (by omega), hk 12 (by omega), hk 13 (by omega), hk 14 (by omega)]
    exact r5 t' a b
  · rw [hk 22 (by omega)] at b
    rw [ho _ (by omega) (by omega), hk 10 (by omega)]
    exact r6 c' a b
  · obtain ⟨f15, f16, f17, f18, f19, f20, f21, e2⟩ := E l'
    rw [e2] at b
    rw [f15, f16, f17, f18, f19, f20, f21]
    by_cases q : l' = m 2 s 0
    · subst q
      simp only [if_pos]
      rw [← f9, V, V, V, V, V, V, V]
      refine ⟨?_, ?_, ?_, ?_, ?_, ?_, ?_⟩
      · rw [if_neg (by omega), if_neg (by omega), if_neg (by omega), if_pos rfl]
      · rw [if_neg (by omega), if_neg (by omega), if_pos rfl]
      · rw [if_neg (by omega), if_neg (by omega), if_neg (by omega), if_neg (by omega), if_pos (by omega)]
      · rw [if_neg (by omega), if_neg (by omega), if_neg (by omega), if_neg (by omega), if_pos (by omega)]
      · rw [if_neg (by omega), if_neg (by omega), if_neg (by omega), if_neg (by omega), if_pos (by omega)]
      · rw [if_neg (by omega), if_neg (by omega), if_neg (by omega), if_neg (by omega), if_pos (by omega)]
      · rw [if_neg (by omega), if_pos rfl, ht, f2]
    · simp only [if_neg q]
      rw [ho _ (by omega) (by omega), ho _ (by omega) (by omega), ho _ (by omega) (by omega), ho _ (by omega) (by omega), ho _ (by omega) (by omega), ho _ (by omega) (by omega), ho _ (by omega) (by omega)]
      exact r7 l' a (by omega)
theorem atN_v (N : Int → Int) (a b x : Int) (h7 : 0 ≤ N 7) (j : Int) : atN N a b x j = if j = 7 then N 7 + 1 else if j = 206 + 4 * N 7 + 3 then 0 else if j = 206 + 4 * N 7 + 2 then x else if j = 206 + 4 * N 7 + 1 then b else if j = 206 + 4 * N 7 then a else N j := by
  unfold atN
  by_cases g : j = 7
  · rw [if_pos g, g, upN_at]
    unfold atN4
    rw [upN_off (by omega), upN_off (by omega), upN_off (by omega), upN_off (by omega)]
  · rw [if_neg g, upN_off g]
    unfold atN4 upN
    rfl
theorem addT_at (m : Mem) (s : Nat) (q t x i : Int) : (addT m s q t x 11 s i = if i = m 1 s 0 then q else m 11 s i) ∧ (addT m s q t x 12 s i = if i = m 1 s 0 then t else m 12 s i) ∧ (addT m s q t x 13 s i = if i = m 1 s 0 then x else m 13 s i) ∧ (addT m s q t x 14 s i = if i = m 1 s 0 then 0 else m 14 s i) ∧ addT m s q t x 1 s 0 = m 1 s 0 + 1 := by
  unfold addT
  refine ⟨?_, ?_, ?_, ?_, ?_⟩
  · rw [up3_k (by decide), up3_k (by decide), up3_k (by decide), up3_k (by decide)]
    by_cases g : i = m 1 s 0
    · rw [if_pos g, g, up3_at]
    · rw [if_neg g, up3_off g]
  · rw [up3_k (by decide), up3_k (by decide), up3_k (by decide)]
    by_cases g : i = m 1 s 0
    · rw [if_pos g, g, up3_at]
    · rw [if_neg g, up3_off g, up3_k (by decide)]
  · rw [up3_k (by decide), up3_k (by decide)]
    by_cases g : i = m 1 s 0
    · rw [if_pos g, g, up3_at]
    · rw [if_neg g, up3_off g, up3_k (by decide), up3_k (by decide)]
  · rw [up3_k (by decide)]
    by_cases g : i = m 1 s 0
    · rw [if_pos g, g, up3_at]
    · rw [if_neg g, up3_off g, up3_k (by decide), up3_k (by decide), up3_k (by decide)]
  · rw [up3_at]
theorem addT_i {m : Mem} {s k i : Nat} {q t x : Int} (h : i ≠ s) : addT m s q t x k i = m k i := by unfold addT; rw [up3_i h, up3_i h, up3_i h, up3_i h, up3_i h]
theorem BS_addT {m : Mem} {p s : Nat} {q t x : Int} (hB : BS m p s) (hq : 0 ≤ q ∧ q < m 22 p 2) (ht : 0 ≤ t ∧ t ≤ 9999) (hx : 1 ≤ x ∧ x ≤ 100000) (hn : m 1 s 0 < 16) : BS (addT m s q t x) p s := by
  have E := addT_at m s q t x
  have hk : ∀ k, (k ≠ 1 ∧ k ≠ 11 ∧ k ≠ 12 ∧ k ≠ 13 ∧ k ≠ 14) → addT m s q t x k = m k := fun k h => addT_k h
  obtain ⟨b1, b2, b3, b4, b5, b6⟩ := hB
  refine ⟨by rw [hk 0 (by decide)]; exact b1, ?_, ?_, ⟨by rw [(E 0).2.2.2.2]; have := b4.1; omega, fun l a b => ?_⟩, ?_, ?_⟩
  · unfold Bq roomC at *; rw [hk 3 (by decide), hk 4 (by decide), hk 5 (by decide), hk 22 (by decide), hk 23 (by decide)]; exact b2
  · unfold Bc at *; rw [hk 6 (by decide), hk 7 (by decide), hk 8 (by decide), hk 22 (by decide)]; exact b3
  · obtain ⟨f11, f12, f13, f14, e1⟩ := E l
    rw [e1] at b
    unfold Bt
    rw [f11, f12, f13, f14, hk 22 (by decide)]
    by_cases h : l = m 1 s 0
    · simp only [if_pos h]; omega
    · simp only [if_neg h]; exact b4.2 l a (by omega)
  · unfold Bl intC at *; rw [hk 2 (by decide), hk 15 (by decide), hk 16 (by decide), hk 17 (by decide), hk 18 (by decide), hk 19 (by decide), hk 20 (by decide), hk 21 (by decide), hk 22 (by decide)]; exact b5
  · rw [hk 10 (by decide), hk 22 (by decide)]; exact b6
theorem R_addT {m : Mem} {p s : Nat} {N : Int → Int} {c y x : Int} (hP : BP m p) (hB : BS m p s) (hR : RP m p N) (hS : RS m p s N) (hn : m 1 s 0 < 16) : RP (addT m s c y x) p (atN N c y x) ∧ RS (addT m s c y x) p s (atN N c y x) := by
  have E := addT_at m s c y x
  have hk : ∀ k, (k ≠ 1 ∧ k ≠ 11 ∧ k ≠ 12 ∧ k ≠ 13 ∧ k ≠ 14) → addT m s c y x k = m k := fun k h => addT_k h
  have n8 := hP.2.2.1
  have n12 := hP.2.2.2.2.2.1
  have nc := hP.2.2.2.2.2.2.1
  have n16 := hB.2.2.2.1.1
  have n16b := hB.2.2.2.2.1.1
  have f7 : N 7 = m 1 s 0 := hS.1.2.2.2.2.2.1
  have V := atN_v N c y x (by omega)
  have ho : ∀ j, j ≠ 7 → (j < 206 + 4 * N 7 ∨ 206 + 4 * N 7 + 4 ≤ j) → atN N c y x j = N j := fun j a b => by
    rw [V, if_neg a, if_neg (by omega), if_neg (by omega), if_neg (by omega), if_neg (by omega)]
  refine ⟨hR.congr hP (fun k a b => by rw [hk k (by omega)]) (fun j hj => ho j (by unfold plI at hj; omega) (by unfold plI at hj; omega)), ?_⟩
  obtain ⟨r1, r2, r3, r4, r5, r6, r7⟩ := hS
  refine ⟨?_, fun q' a b => ?_, fun q' a b => ?_, fun c' a b => ?_, fun t' a b => ?_, fun c' a b => ?_, fun l' a b => ?_⟩
  · obtain ⟨a1, a2, a3, a4, a5, a6, a7⟩ := r1
    unfold R1
    rw [hk 0 (by decide), hk 9 (by decide), hk 2 (by decide), hk 22 (by decide), (E 0).2.2.2.2]
    exact ⟨by rw [ho _ (by omega) (by omega)]; exact a1, by rw [ho _ (by omega) (by omega)]; exact a2, by rw [ho _ (by omega) (by omega)]; exact a3, by rw [ho _ (by omega) (by omega)]; exact a4, by rw [ho _ (by omega) (by omega)]; exact a5, by rw [V, if_pos rfl, f7], by rw [ho _ (by omega) (by omega)]; exact a7⟩
  · rw [hk 22 (by decide)] at b
    rw [ho _ (by omega) (by omega), ho _ (by omega) (by omega), ho _ (by omega) (by omega), hk 3 (by decide), hk 4 (by decide), hk 5 (by decide)]
    exact r2 q' a b
  · rw [hk 22 (by decide)] at b
    have en : ∀ st, st ≠ 0 → sm (numC (addT m s c y x) s q' st) (m 1 s 0 + 1).toNat = sm (numC m s q' st) (m 1 s 0).toNat := fun st hst => by
      rw [show (m 1 s 0 + 1).toNat = (m 1 s 0).toNat + 1 by omega, sm_s]
      have z : numC (addT m s c y x) s q' st ((m 1 s 0).toNat : Int) = 0 := by
        unfold numC
        rw [(E _).2.2.2.1, if_pos (show ((m 1 s 0).toNat : Int) = m 1 s 0 by omega), if_neg (fun z => hst z.2.symm)]
      have w : sm (numC (addT m s c y x) s q' st) (m 1 s 0).toNat = sm (numC m s q' st) (m 1 s 0).toNat := sm_congr (fun i i0 i1 => by
        unfold numC
        rw [(E i).1, (E i).2.2.2.1, if_neg (show ¬ i = m 1 s 0 by omega), if_neg (show ¬ i = m 1 s 0 by omega)])
      rw [z, w]; omega
    rw [ho _ (by omega) (by omega), ho _ (by omega) (by omega), (E 0).2.2.2.2, en 1 (by decide), en 2 (by decide)]
    exact r3 q' a b
  · rw [hk 22 (by decide)] at b
    rw [ho _ (by omega) (by omega), ho _ (by omega) (by omega), ho _ (by omega) (by omega), hk 6 (by decide), hk 7 (by decide), hk 9 (by decide)]
    exact r4 c' a b
  · obtain ⟨f11, f12, f13, f14, e1⟩ := E t'
    rw [e1] at b
    rw [f11, f12, f13, f14]
    by_cases q : t' = m 1 s 0
    · subst q
      simp only [if_pos]
      rw [← f7, V, V, V, V]
      refine ⟨?_, ?_, ?_, ?_⟩
      · rw [if_neg (by omega), if_neg (by omega), if_neg (by omega), if_neg (by omega), if_pos (by omega)]
      · rw [if_neg (by omega), if_neg (by omega), if_neg (by omega), if_pos (by omega)]
      · rw [if_neg (by omega), if_neg (by omega), if_pos (by omega)]
      · rw [if_neg (by omega), if_pos (by omega)]
    · simp only [if_neg q]
      rw [ho _ (by omega) (by omega), ho _ (by omega) (by omega), ho _ (by omega) (by omega), ho _ (by omega) (by omega)]
      exact r5 t' a (by omega)
  · rw [hk 22 (by decide)] at b
    rw [ho _ (by omega) (by omega), hk 10 (by decide)]
    exact r6 c' a b
  · rw [hk 2 (by decide)] at b
    rw [ho _ (by omega) (by omega), ho _ (by omega) (by omega), ho _ (by omega) (by omega), ho _ (by omega) (by omega), ho _ (by omega) (by omega), ho _ (by omega) (by omega), ho _ (by omega) (by omega), hk 15 (by decide), hk 16 (by decide), hk 17 (by decide), hk 18 (by decide), hk 19 (by decide), hk 20 (by decide), hk 21 (by decide)]
    exact r7 l' a b
/-- a trip taken away -/
theorem dpL_v : ∀ (n : Nat) (N : Int → Int) (j x : Int), dpL N j n x = if 206 + j ≤ x ∧ x < 206 + j + n then N (x + 4) else N x := by
  intro n
  induction n with
  | zero => intro N j x; rw [if_neg (by omega)]; rfl
  | succ n ih =>
    intro N j x
    show dpL (upN N (206 + j) (N (206 + j + 4))) (j + 1) n x = _
    rw [ih]
    by_cases g : x = 206 + j
    · rw [if_neg (by omega), if_pos (by omega), g, upN_at]
    · by_cases g2 : 206 + (j + 1) ≤ x ∧ x < 206 + (j + 1) + n
      · rw [if_pos g2, if_pos (by omega), upN_off (by omega)]
      · rw [if_neg g2, if_neg (by omega), upN_off g]
theorem dpN_v (N : Int → Int) (t : Int) (h0 : 0 ≤ t) (h1 : t < N 7) (x : Int) : dpN N t x = if x = 7 then N 7 - 1 else if 206 + 4 * t ≤ x ∧ x < 206 + 4 * (N 7 - 1) then N (x + 4) else N x := by
  unfold dpN
  rw [dpL_v]
  by_cases g : x = 7
  · rw [if_neg (by omega), if_pos g, g, upN_at]
  · rw [if_neg g]
    by_cases g2 : 206 + 4 * t ≤ x ∧ x < 206 + 4 * (N 7 - 1)
    · rw [if_pos (by omega), if_pos g2, upN_off (by omega)]
    · rw [if_neg (by omega), if_neg g2, upN_off g]
theorem rmT1_k {m : Mem} {s : Nat} {i : Int} {k : Nat} (h : k ≠ 11 ∧ k ≠ 12 ∧ k ≠ 13 ∧ k ≠ 14) : rmT1 m s i k = m k := by unfold rmT1; rw [up3_k h.2.2.2, up3_k h.2.2.1, up3_k h.2.1, up3_k h.1]
theorem rmT1_i {m : Mem} {s k i' : Nat} {i : Int} (h : i' ≠ s) : rmT1 m s i k i' = m k i' := by unfold rmT1; rw [up3_i h, up3_i h, up3_i h, up3_i h]
theorem rmT1_v {m : Mem} {s k : Nat} {i : Int} (h : 11 ≤ k ∧ k ≤ 14) (t : Int) : rmT1 m s i k s t = if t = i then m k s (i + 1) else m k s t := by
  unfold rmT1
  have hk : k = 11 ∨ k = 12 ∨ k = 13 ∨ k = 14 := by omega
  by_cases g : t = i
  · rw [if_pos g, g]
    rcases hk with rfl | rfl | rfl | rfl
    · rw [up3_k (by decide), up3_k (by decide), up3_k (by decide), up3_at]
    · rw [up3_k (by decide), up3_k (by decide), up3_at]
    · rw [up3_k (by decide), up3_at]
    · rw [up3_at]
  · rw [if_neg g]
    rcases hk with rfl | rfl | rfl | rfl
    · rw [up3_k (by decide), up3_k (by decide), up3_k (by decide), up3_off g]
    · rw [up3_k (by decide), up3_k (by decide), up3_off g, up3_k (by decide)]
    · rw [up3_k (by decide), up3_off g, up3_k (by decide), up3_k (by decide)]
    · rw [up3_off g, up3_k (by decide), up3_k (by decide), up3_k (by decide)]
theorem rmTL_k {s k : Nat} (h : k ≠ 11 ∧ k ≠ 12 ∧ k ≠ 13 ∧ k ≠ 14) : ∀ (n : Nat) (m : Mem) (i : Int), rmTL m s i n k = m k := by
  intro n
  induction n with
  | zero => intro m i; rfl
  | succ n ih => intro m i; show rmTL (rmT1 m s i) s (i + 1) n k = _; rw [ih, rmT1_k h]
theorem rmTL_i {s k i' : Nat} (h : i' ≠ s) : ∀ (n : Nat) (m : Mem) (i : Int), rmTL m s i n k i' = m k i' := by
  intro n
  induction n with
  | zero => intro m i; rfl
  | succ n ih => intro m i; show rmTL (rmT1 m s i) s (i + 1) n k i' = _; rw [ih, rmT1_i h]
theorem rmTL_v {s k : Nat} (h : 11 ≤ k ∧ k ≤ 14) : ∀ (n : Nat) (m : Mem) (i t : Int), rmTL m s i n k s t = if i ≤ t ∧ t < i + n then m k s (t + 1) else m k s t := by
  intro n
  induction n with
  | zero => intro m i t; rw [if_neg (by omega)]; rfl
  | succ n ih =>
    intro m i t
    show rmTL (rmT1 m s i) s (i + 1) n k s t = _
    rw [ih, rmT1_v h, rmT1_v h]
    by_cases g : t = i
    · rw [if_neg (by omega), if_pos g, if_pos (by omega), g]
    · by_cases g2 : i + 1 ≤ t ∧ t < i + 1 + n
      · rw [if_pos g2, if_neg (by omega), if_pos (by omega)]
      · rw [if_neg g2, if_neg g, if_neg (by omega)]
theorem rmT_k {m : Mem} {s : Nat} {i : Int} {k : Nat} (h : k ≠ 1 ∧ k ≠ 11 ∧ k ≠ 12 ∧ k ≠ 13 ∧ k ≠ 14) : rmT m s i k = m k := by unfold rmT; rw [rmTL_k h.2, up3_k h.1]
theorem rmT_i {m : Mem} {s k i' : Nat} {i : Int} (h : i' ≠ s) : rmT m s i k i' = m k i' := by unfold rmT; rw [rmTL_i h, up3_i h]
theorem rmT_1 {m : Mem} {s : Nat} {i : Int} : rmT m s i 1 s 0 = m 1 s 0 - 1 := by unfold rmT; rw [rmTL_k (by decide), up3_at]
theorem rmT_v {m : Mem} {s k : Nat} {i : Int} (h : 11 ≤ k ∧ k ≤ 14) (h0 : 0 ≤ i ∧ i < m 1 s 0) (t : Int) : rmT m s i k s t = if i ≤ t ∧ t < m 1 s 0 - 1 then m k s (t + 1) else m k s t := by
  unfold rmT
  rw [rmTL_v h, up3_k (by omega)]
  by_cases g : i ≤ t ∧ t < m 1 s 0 - 1
  · rw [if_pos (by omega), if_pos g]
  · rw [if_neg (by omega), if_neg g]
theorem BS_rmT {m : Mem} {p s : Nat} {i : Int} (hB : BS m p s) (h0 : 0 ≤ i ∧ i < m 1 s 0) : BS (rmT m s i) p s := by
  have hk : ∀ k, (k ≠ 1 ∧ k ≠ 11 ∧ k ≠ 12 ∧ k ≠ 13 ∧ k ≠ 14) → rmT m s i k = m k := fun k h => rmT_k h
  have hv : ∀ k, 11 ≤ k ∧ k ≤ 14 → ∀ t, rmT m s i k s t = if i ≤ t ∧ t < m 1 s 0 - 1 then m k s (t + 1) else m k s t := fun k h t => rmT_v h h0 t
  obtain ⟨b1, b2, b3, b4, b5, b6⟩ := hB
  refine ⟨by rw [hk 0 (by decide)]; exact b1, ?_, ?_, ⟨by rw [rmT_1]; have := b4.1; omega, fun l a b => ?_⟩, ?_, ?_⟩
  · unfold Bq roomC at *; rw [hk 3 (by decide), hk 4 (by decide), hk 5 (by decide), hk 22 (by decide), hk 23 (by decide)]; exact b2
  · unfold Bc at *; rw [hk 6 (by decide), hk 7 (by decide), hk 8 (by decide), hk 22 (by decide)]; exact b3
  · rw [rmT_1] at b
    unfold Bt
    rw [hv 11 (by decide), hv 12 (by decide), hv 13 (by decide), hv 14 (by decide), hk 22 (by decide)]
    by_cases h : i ≤ l ∧ l < m 1 s 0 - 1
    · simp only [if_pos h]; exact b4.2 (l + 1) (by omega) (by omega)
    · simp only [if_neg h]; exact b4.2 l a (by omega)
  · unfold Bl intC at *; rw [hk 2 (by decide), hk 15 (by decide), hk 16 (by decide), hk 17 (by decide), hk 18 (by decide), hk 19 (by decide), hk 20 (by decide), hk 21 (by decide), hk 22 (by decide)]; exact b5
  · rw [hk 10 (by decide), hk 22 (by decide)]; exact b6
theorem sm_drop {f g : Int → Int} {i : Int} (h0 : 0 ≤ i) (hz : f i = 0) : ∀ (n : Nat), (∀ t : Int, 0 ≤ t → t < n → g t = if i ≤ t then f (t + 1) else f t) → i ≤ n → sm g n = sm f (n + 1) := by
  intro n
  induction n with
  | zero =>
    intro _ h1
    have : i = 0 := by omega
    subst this
    rw [sm_s]
    show (0 : Int) = 0 + f ((0 : Nat) : Int)
    rw [show ((0 : Nat) : Int) = 0 from rfl, hz]; rfl
  | succ n ih =>
    intro hg h1
    by_cases e : i = (n : Int) + 1
    · rw [sm_s f (n + 1), show (((n + 1 : Nat)) : Int) = i by omega, hz, Int.add_zero]
      exact sm_congr (fun t a b => by rw [hg t a b, if_neg (by omega)])
    · rw [sm_s, sm_s f (n + 1), ih (fun t a b => hg t a (by omega)) (by omega), hg n (by omega) (by omega), if_pos (by omega)]
      rfl
theorem R_rmT {m : Mem} {p s : Nat} {N : Int → Int} {i : Int} (hP : BP m p) (hB : BS m p s) (hR : RP m p N) (hS : RS m p s N) (h0 : 0 ≤ i ∧ i < m 1 s 0) (hz : m 14 s i = 0) : RP (rmT m s i) p (dpN N i) ∧ RS (rmT m s i) p s (dpN N i) := by
  have hk : ∀ k, (k ≠ 1 ∧ k ≠ 11 ∧ k ≠ 12 ∧ k ≠ 13 ∧ k ≠ 14) → rmT m s i k = m k := fun k h => rmT_k h
  have hv : ∀ k, 11 ≤ k ∧ k ≤ 14 → ∀ t, rmT m s i k s t = if i ≤ t ∧ t < m 1 s 0 - 1 then m k s (t + 1) else m k s t := fun k h t => rmT_v h h0 t
  have n8 := hP.2.2.1
  have n12 := hP.2.2.2.2.2.1
  have nc := hP.2.2.2.2.2.2.1
  have n16 := hB.2.2.2.1.1
  have n16b := hB.2.2.2.2.1.1
  have f7 : N 7 = m 1 s 0 := hS.1.2.2.2.2.2.1
  have V := dpN_v N i h0.1 (by omega)
  have ho : ∀ j, j ≠ 7 → (j < 206 ∨ 270 ≤ j) → dpN N i j = N j := fun j a b => by
    rw [V, if_neg a, if_neg (by omega)]
  refine ⟨hR.congr hP (fun k a b => by rw [hk k (by omega)]) (fun j hj => ho j (by unfold plI at hj; omega) (by unfold plI at hj; omega)), ?_⟩
  obtain ⟨r1, r2, r3, r4, r5, r6, r7⟩ := hS
  refine ⟨?_, fun q' a b => ?_, fun q' a b => ?_, fun c' a b => ?_, fun t' a b => ?_, fun c' a b => ?_, fun l' a b => ?_⟩
  · obtain ⟨a1, a2, a3, a4, a5, a6, a7⟩ := r1
    unfold R1
    rw [hk 0 (by decide), hk 9 (by decide), hk 2 (by decide), hk 22 (by decide), rmT_1]
    exact ⟨by rw [ho _ (by omega) (by omega)]; exact a1, by rw [ho _ (by omega) (by omega)]; exact a2, by rw [ho _ (by omega) (by omega)]; exact a3, by rw [ho _ (by omega) (by omega)]; exact a4, by rw [ho _ (by omega) (by omega)]; exact a5, by rw [V, if_pos rfl, f7], by rw [ho _ (by omega) (by omega)]; exact a7⟩
  · rw [hk 22 (by decide)] at b
    rw [ho _ (by omega) (by omega), ho _ (by omega) (by omega), ho _ (by omega) (by omega), hk 3 (by decide), hk 4 (by decide), hk 5 (by decide)]
    exact r2 q' a b
  · rw [hk 22 (by decide)] at b
    have en : ∀ st, st ≠ 0 → sm (numC (rmT m s i) s q' st) (m 1 s 0 - 1).toNat = sm (numC m s q' st) (m 1 s 0).toNat := fun st hst => by
      rw [show (m 1 s 0).toNat = (m 1 s 0 - 1).toNat + 1 by omega]
      refine sm_drop h0.1 (by unfold numC; rw [hz, if_neg (by omega)]) _ (fun t t0 t1 => ?_) (by omega)
      unfold numC
      rw [hv 11 (by decide), hv 14 (by decide)]
      by_cases g : i ≤ t
      · rw [if_pos (show i ≤ t ∧ t < m 1 s 0 - 1 by omega), if_pos (show i ≤ t ∧ t < m 1 s 0 - 1 by omega), if_pos g]
      · rw [if_neg (show ¬ (i ≤ t ∧ t < m 1 s 0 - 1) by omega), if_neg (show ¬ (i ≤ t ∧ t < m 1 s 0 - 1) by omega), if_neg g]
    rw [ho _ (by omega) (by omega), ho _ (by omega) (by omega), rmT_1, en 1 (by decide), en 2 (by decide)]
    exact r3 q' a b
  · rw [hk 22 (by decide)] at b
    rw [ho _ (by omega) (by omega), ho _ (by omega) (by omega), ho _ (by omega) (by omega), hk 6 (by decide), hk 7 (by decide), hk 9 (by decide)]
    exact r4 c' a b
  · rw [rmT_1] at b
    rw [hv 11 (by decide), hv 12 (by decide), hv 13 (by decide), hv 14 (by decide), V, V, V, V]
    by_cases q : i ≤ t' ∧ t' < m 1 s 0 - 1
    · simp only [if_pos q]
      have k := r5 (t' + 1) (by omega) (by omega)
      rw [if_neg (by omega), if_pos (by omega), if_neg (by omega), if_pos (by omega), if_neg (by omega), if_pos (by omega), if_neg (by omega), if_pos (by omega)]
      rw [show 206 + 4 * t' + 0 + 4 = 206 + 4 * (t' + 1) + 0 by omega, show 206 + 4 * t' + 1 + 4 = 206 + 4 * (t' + 1) + 1 by omega, show 206 + 4 * t' + 2 + 4 = 206 + 4 * (t' + 1) + 2 by omega, show 206 + 4 * t' + 3 + 4 = 206 + 4 * (t' + 1) + 3 by omega]
      exact k
    · simp only [if_neg q]
      rw [if_neg (by omega), if_neg (by omega), if_neg (by omega), if_neg (by omega), if_neg (by omega), if_neg (by omega), if_neg (by omega), if_neg (by omega)]
      exact r5 t' a (by omega)
  · rw [hk 22 (by decide)] at b
    rw [ho _ (by omega) (by omega), hk 10 (by decide)]
    exact r6 c' a b
  · rw [hk 2 (by decide)] at b
    rw [ho _ (by omega) (by omega), ho _ (by omega) (by omega), ho _ (by omega) (by omega), ho _ (by omega) (by omega), ho _ (by omega) (by omega), ho _ (by omega) (by omega), ho _ (by omega) (by omega), hk 15 (by decide), hk 16 (by decide), hk 17 (by decide), hk 18 (by decide), hk 19 (by decide), hk 20 (by decide), hk 21 (by decide)]
    exact r7 l' a b
section XX
variable {c : Mem} {p s : Nat} {N : Int → Int} {K : Nat}
theorem ST.lend (h : ST c p s N K) {a x k t : Int} (h0 : 0 ≤ a) (h1 : a < c 22 p 6) (hx : 1 ≤ x ∧ x ≤ 100000) (hk : 1 ≤ k ∧ k ≤ 999) (ht : t = c 0 s 0 + k) (hn : c 2 s 0 < 16) : ST (addL c s a x t) p s (ldN N a x k) K := by
  have t0 := h.2.1.1
  have tt := h.2.2.2.2.2.2.1
  have f9 : N 9 = c 2 s 0 := h.2.2.2.1.1.2.2.2.2.2.2
  have nl := h.2.1.2.2.2.2.1.1
  have b := BS_addL (t := t) h.1 h.2.1 ⟨h0, h1⟩ hx (by omega) hn
  refine h.of b.1 b.2 (R_addL h.1 h.2.1 h.2.2.1 h.2.2.2.1 ht hn) (by rw [addL_k (by omega)]) (fun i a b => ?_) (by rw [addL_k (by omega)]) (h.2.2.2.2.2.1.k (by rw [addL_k (by omega)]) (by rw [addL_k (by omega)]) (by rw [addL_k (by omega)]) (by rw [addL_k (by omega)])) ?_ ?_
  · rw [ldN_v N _ x k (by omega), if_neg (by omega), if_neg (by omega), if_neg (by omega), if_neg (by omega), if_neg (by omega)]
  · rw [addL_k (by omega)]; exact tt
  · rw [addL_k (by omega)]; exact h.2.2.2.2.2.2.2
theorem ST.addTrip (h : ST c p s N K) {a y x : Int} (h0 : 0 ≤ a) (h1 : a < c 22 p 2) (hy : 0 ≤ y ∧ y ≤ 9999) (hx : 1 ≤ x ∧ x ≤ 100000) (hn : c 1 s 0 < 16) : ST (addT c s a y x) p s (atN N a y x) K := by
  have f7 : N 7 = c 1 s 0 := h.2.2.2.1.1.2.2.2.2.2.1
  have nt := h.2.1.2.2.2.1.1
  refine h.of (h.1.congr (fun k a b => by rw [addT_k (by omega)])) (BS_addT h.2.1 ⟨h0, h1⟩ hy hx hn) (R_addT h.1 h.2.1 h.2.2.1 h.2.2.2.1 hn) (by rw [addT_k (by decide)]) (fun i a b => ?_) (by rw [addT_k (by decide)]) (h.2.2.2.2.2.1.k (by rw [addT_k (by decide)]) (by rw [addT_k (by decide)]) (by rw [addT_k (by decide)]) (by rw [addT_k (by decide)])) ?_ ?_
  · rw [atN_v N _ y x (by omega), if_neg (by omega), if_neg (by omega), if_neg (by omega), if_neg (by omega), if_neg (by omega)]
  · rw [addT_k (by decide)]; exact h.2.2.2.2.2.2.1
  · rw [addT_k (by decide)]; exact h.2.2.2.2.2.2.2
theorem ST.dropTrip (h : ST c p s N K) {i : Int} (h0 : 0 ≤ i ∧ i < c 1 s 0) (hz : c 14 s i = 0) : ST (rmT c s i) p s (dpN N i) K := by
  have f7 : N 7 = c 1 s 0 := h.2.2.2.1.1.2.2.2.2.2.1
  refine h.of (h.1.congr (fun k a b => by rw [rmT_k (by omega)])) (BS_rmT h.2.1 h0) (R_rmT h.1 h.2.1 h.2.2.1 h.2.2.2.1 h0 hz) (by rw [rmT_k (by decide)]) (fun i a b => ?_) (by rw [rmT_k (by decide)]) (h.2.2.2.2.2.1.k (by rw [rmT_k (by decide)]) (by rw [rmT_k (by decide)]) (by rw [rmT_k (by decide)]) (by rw [rmT_k (by decide)])) ?_ ?_
  · rw [dpN_v N _ h0.1 (by omega), if_neg (by omega), if_neg (by omega)]
  · rw [rmT_k (by decide)]; exact h.2.2.2.2.2.2.1
  · rw [rmT_k (by decide)]; exact h.2.2.2.2.2.2.2
end XX
