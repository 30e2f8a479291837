/-- the counts' bounds -/
def NB (m : Mem) (s : Nat) : Prop := (0 ≤ m 1 s 0 ∧ m 1 s 0 ≤ 16) ∧ (0 ≤ m 2 s 0 ∧ m 2 s 0 ≤ 16)
theorem BS_nb {m : Mem} {p s : Nat} (h : BS m p s) : NB m s := ⟨h.2.2.2.1.1, h.2.2.2.2.1.1⟩
theorem R_loan17 {m : Mem} {p s : Nat} {N : Int → Int} {l z z' : Int} (e : z' = z) (hP : BP m p) (hB : NB m s) (hR : RP m p N) (hS : RS m p s N) (h0 : 0 ≤ l) (h1 : l < m 2 s 0) : RP (up3 m 17 s l z) p (upN N (318 + 7 * l + 2) z') ∧ RS (up3 m 17 s l z) p s (upN N (318 + 7 * l + 2) z') := by
  subst e
  have hk : ∀ k, k ≠ 17 → up3 m 17 s l z' k = m k := fun k h => up3_k h
  have n8 := hP.2.2.1
  have n12 := hP.2.2.2.2.2.1
  have nc := hP.2.2.2.2.2.2.1
  have n16 := hB.1
  have n16b := hB.2
  have ho : ∀ j, j ≠ 318 + 7 * l + 2 → upN N (318 + 7 * l + 2) z' j = N j := fun j a => upN_off a
  refine ⟨hR.congr hP (fun k a b => by rw [hk k (by omega)]) (fun j hj => ho j (by unfold plI at hj; omega)), ?_⟩
  obtain ⟨r1, r2, r3, r4, r5, r6, r7⟩ := hS
  refine ⟨?_, fun q' a b => ?_, fun q' a b => ?_, fun c a b => ?_, fun t' a b => ?_, fun c a b => ?_, fun l' a b => ?_⟩
  · obtain ⟨a1, a2, a3, a4, a5, a6, a7⟩ := r1
    exact ⟨by rw [ho _ (by omega)]; exact a1, by rw [ho _ (by omega)]; exact a2, by rw [ho _ (by omega)]; exact a3, by rw [ho _ (by omega)]; exact a4, by rw [ho _ (by omega)]; exact a5, by rw [ho _ (by omega)]; exact a6, by rw [ho _ (by omega)]; exact a7⟩
  · rw [hk 22 (by decide)] at b
    rw [ho _ (by omega), ho _ (by omega), ho _ (by omega)]
    exact r2 q' a b
  · rw [hk 22 (by decide)] at b
    rw [ho _ (by omega), ho _ (by omega)]
    exact r3 q' a b
  · rw [hk 22 (by decide)] at b
    rw [ho _ (by omega), ho _ (by omega), ho _ (by omega)]
    exact r4 c a b
  · rw [hk 1 (by decide)] at b
    rw [ho _ (by omega), ho _ (by omega), ho _ (by omega), ho _ (by omega)]
    exact r5 t' a b
  · rw [hk 22 (by decide)] at b
    rw [ho _ (by omega)]
    exact r6 c a b
  · rw [hk 2 (by decide)] at b
    have c := r7 l' a b
    by_cases q : l' = l
    · subst q
      rw [ho (318 + 7 * l' + 0) (by omega), hk 15 (by decide), ho (318 + 7 * l' + 1) (by omega), hk 16 (by decide), upN_at, up3_at, ho (318 + 7 * l' + 3) (by omega), hk 18 (by decide), ho (318 + 7 * l' + 4) (by omega), hk 19 (by decide), ho (318 + 7 * l' + 5) (by omega), hk 20 (by decide), ho (318 + 7 * l' + 6) (by omega), hk 21 (by decide)]
      exact ⟨c.1, c.2.1, rfl, c.2.2.2.1, c.2.2.2.2.1, c.2.2.2.2.2.1, c.2.2.2.2.2.2⟩
    · rw [ho (318 + 7 * l' + 0) (by omega), ho (318 + 7 * l' + 1) (by omega), ho (318 + 7 * l' + 2) (by omega), ho (318 + 7 * l' + 3) (by omega), ho (318 + 7 * l' + 4) (by omega), ho (318 + 7 * l' + 5) (by omega), ho (318 + 7 * l' + 6) (by omega), up3_off q, hk 15 (by decide), hk 16 (by decide), hk 18 (by decide), hk 19 (by decide), hk 20 (by decide), hk 21 (by decide)]
      exact c
theorem R_loan18 {m : Mem} {p s : Nat} {N : Int → Int} {l z z' : Int} (e : z' = z) (hP : BP m p) (hB : NB m s) (hR : RP m p N) (hS : RS m p s N) (h0 : 0 ≤ l) (h1 : l < m 2 s 0) : RP (up3 m 18 s l z) p (upN N (318 + 7 * l + 3) z') ∧ RS (up3 m 18 s l z) p s (upN N (318 + 7 * l + 3) z') := by
  subst e
  have hk : ∀ k, k ≠ 18 → up3 m 18 s l z' k = m k := fun k h => up3_k h
  have n8 := hP.2.2.1
  have n12 := hP.2.2.2.2.2.1
  have nc := hP.2.2.2.2.2.2.1
  have n16 := hB.1
  have n16b := hB.2
  have ho : ∀ j, j ≠ 318 + 7 * l + 3 → upN N (318 + 7 * l + 3) z' j = N j := fun j a => upN_off a
  refine ⟨hR.congr hP (fun k a b => by rw [hk k (by omega)]) (fun j hj => ho j (by unfold plI at hj; omega)), ?_⟩
  obtain ⟨r1, r2, r3, r4, r5, r6, r7⟩ := hS
  refine ⟨?_, fun q' a b => ?_, fun q' a b => ?_, fun c a b => ?_, fun t' a b => ?_, fun c a b => ?_, fun l' a b => ?_⟩
  · obtain ⟨a1, a2, a3, a4, a5, a6, a7⟩ := r1
    exact ⟨by rw [ho _ (by omega)]; exact a1, by rw [ho _ (by omega)]; exact a2, by rw [ho _ (by omega)]; exact a3, by rw [ho _ (by omega)]; exact a4, by rw [ho _ (by omega)]; exact a5, by rw [ho _ (by omega)]; exact a6, by rw [ho _ (by omega)]; exact a7⟩
  · rw [hk 22 (by decide)] at b
    rw [ho _ (by omega), ho _ (by omega), ho _ (by omega)]
    exact r2 q' a b
  · rw [hk 22 (by decide)] at b
    rw [ho _ (by omega), ho _ (by omega)]
    exact r3 q' a b
  · rw [hk 22 (by decide)] at b
    rw [ho _ (by omega), ho _ (by omega), ho _ (by omega)]
    exact r4 c a b
  · rw [hk 1 (by decide)] at b
    rw [ho _ (by omega), ho _ (by omega), ho _ (by omega), ho _ (by omega)]
    exact r5 t' a b
  · rw [hk 22 (by decide)] at b
    rw [ho _ (by omega)]
    exact r6 c a b
  · rw [hk 2 (by decide)] at b
    have c := r7 l' a b
    by_cases q : l' = l
    · subst q
      rw [ho (318 + 7 * l' + 0) (by omega), hk 15 (by decide), ho (318 + 7 * l' + 1) (by omega), hk 16 (by decide), ho (318 + 7 * l' + 2) (by omega), hk 17 (by decide), upN_at, up3_at, ho (318 + 7 * l' + 4) (by omega), hk 19 (by decide), ho (318 + 7 * l' + 5) (by omega), hk 20 (by decide), ho (318 + 7 * l' + 6) (by omega), hk 21 (by decide)]
      exact ⟨c.1, c.2.1, c.2.2.1, rfl, c.2.2.2.2.1, c.2.2.2.2.2.1, c.2.2.2.2.2.2⟩
    · rw [ho (318 + 7 * l' + 0) (by omega), ho (318 + 7 * l' + 1) (by omega), ho (318 + 7 * l' + 2) (by omega), ho (318 + 7 * l' + 3) (by omega), ho (318 + 7 * l' + 4) (by omega), ho (318 + 7 * l' + 5) (by omega), ho (318 + 7 * l' + 6) (by omega), up3_off q, hk 15 (by decide), hk 16 (by decide), hk 17 (by decide), hk 19 (by decide), hk 20 (by decide), hk 21 (by decide)]
      exact c
theorem R_loan19 {m : Mem} {p s : Nat} {N : Int → Int} {l z z' : Int} (e : z' = z) (hP : BP m p) (hB : NB m s) (hR : RP m p N) (hS : RS m p s N) (h0 : 0 ≤ l) (h1 : l < m 2 s 0) : RP (up3 m 19 s l z) p (upN N (318 + 7 * l + 4) z') ∧ RS (up3 m 19 s l z) p s (upN N (318 + 7 * l + 4) z') := by
  subst e
  have hk : ∀ k, k ≠ 19 → up3 m 19 s l z' k = m k := fun k h => up3_k h
  have n8 := hP.2.2.1
  have n12 := hP.2.2.2.2.2.1
  have nc := hP.2.2.2.2.2.2.1
  have n16 := hB.1
  have n16b := hB.2
  have ho : ∀ j, j ≠ 318 + 7 * l + 4 → upN N (318 + 7 * l + 4) z' j = N j := fun j a => upN_off a
  refine ⟨hR.congr hP (fun k a b => by rw [hk k (by omega)]) (fun j hj => ho j (by unfold plI at hj; omega)), ?_⟩
  obtain ⟨r1, r2, r3, r4, r5, r6, r7⟩ := hS
  refine ⟨?_, fun q' a b => ?_, fun q' a b => ?_, fun c a b => ?_, fun t' a b => ?_, fun c a b => ?_, fun l' a b => ?_⟩
  · obtain ⟨a1, a2, a3, a4, a5, a6, a7⟩ := r1
    exact ⟨by rw [ho _ (by omega)]; exact a1, by rw [ho _ (by omega)]; exact a2, by rw [ho _ (by omega)]; exact a3, by rw [ho _ (by omega)]; exact a4, by rw [ho _ (by omega)]; exact a5, by rw [ho _ (by omega)]; exact a6, by rw [ho _ (by omega)]; exact a7⟩
  · rw [hk 22 (by decide)] at b
    rw [ho _ (by omega), ho _ (by omega), ho _ (by omega)]
    exact r2 q' a b
  · rw [hk 22 (by decide)] at b
    rw [ho _ (by omega), ho _ (by omega)]
    exact r3 q' a b
  · rw [hk 22 (by decide)] at b
    rw [ho _ (by omega), ho _ (by omega), ho _ (by omega)]
    exact r4 c a b
  · rw [hk 1 (by decide)] at b
    rw [ho _ (by omega), ho _ (by omega), ho _ (by omega), ho _ (by omega)]
    exact r5 t' a b
  · rw [hk 22 (by decide)] at b
    rw [ho _ (by omega)]
    exact r6 c a b
  · rw [hk 2 (by decide)] at b
    have c := r7 l' a b
    by_cases q : l' = l
    · subst q
      rw [ho (318 + 7 * l' + 0) (by omega), hk 15 (by decide), ho (318 + 7 * l' + 1) (by omega), hk 16 (by decide), ho (318 + 7 * l' + 2) (by omega), hk 17 (by decide), ho (318 + 7 * l' + 3) (by omega), hk 18 (by decide), upN_at, up3_at, ho (318 + 7 * l' + 5) (by omega), hk 20 (by decide), ho (318 + 7 * l' + 6) (by omega), hk 21 (by decide)]
      exact ⟨c.1, c.2.1, c.2.2.1, c.2.2.2.1, rfl, c.2.2.2.2.2.1, c.2.2.2.2.2.2⟩
    · rw [ho (318 + 7 * l' + 0) (by omega), ho (318 + 7 * l' + 1) (by omega), ho (318 + 7 * l' + 2) (by omega), ho (318 + 7 * l' + 3) (by omega), ho (318 + 7 * l' + 4) (by omega), ho (318 + 7 * l' + 5) (by omega), ho (318 + 7 * l' + 6) (by omega), up3_off q, hk 15 (by decide), hk 16 (by decide), hk 17 (by decide), hk 18 (by decide), hk 20 (by decide), hk 21 (by decide)]
      exact c
theorem R_loan20 {m : Mem} {p s : Nat} {N : Int → Int} {l z z' : Int} (e : z' = z) (hP : BP m p) (hB : NB m s) (hR : RP m p N) (hS : RS m p s N) (h0 : 0 ≤ l) (h1 : l < m 2 s 0) : RP (up3 m 20 s l z) p (upN N (318 + 7 * l + 5) z') ∧ RS (up3 m 20 s l z) p s (upN N (318 + 7 * l + 5) z') := by
  subst e
  have hk : ∀ k, k ≠ 20 → up3 m 20 s l z' k = m k := fun k h => up3_k h
  have n8 := hP.2.2.1
  have n12 := hP.2.2.2.2.2.1
  have nc := hP.2.2.2.2.2.2.1
  have n16 := hB.1
  have n16b := hB.2
  have ho : ∀ j, j ≠ 318 + 7 * l + 5 → upN N (318 + 7 * l + 5) z' j = N j := fun j a => upN_off a
  refine ⟨hR.congr hP (fun k a b => by rw [hk k (by omega)]) (fun j hj => ho j (by unfold plI at hj; omega)), ?_⟩
  obtain ⟨r1, r2, r3, r4, r5, r6, r7⟩ := hS
  refine ⟨?_, fun q' a b => ?_, fun q' a b => ?_, fun c a b => ?_, fun t' a b => ?_, fun c a b => ?_, fun l' a b => ?_⟩
  · obtain ⟨a1, a2, a3, a4, a5, a6, a7⟩ := r1
    exact ⟨by rw [ho _ (by omega)]; exact a1, by rw [ho _ (by omega)]; exact a2, by rw [ho _ (by omega)]; exact a3, by rw [ho _ (by omega)]; exact a4, by rw [ho _ (by omega)]; exact a5, by rw [ho _ (by omega)]; exact a6, by rw [ho _ (by omega)]; exact a7⟩
  · rw [hk 22 (by decide)] at b
    rw [ho _ (by omega), ho _ (by omega), ho _ (by omega)]
    exact r2 q' a b
  · rw [hk 22 (by decide)] at b
    rw [ho _ (by omega), ho _ (by omega)]
    exact r3 q' a b
  · rw [hk 22 (by decide)] at b
    rw [ho _ (by omega), ho _ (by omega), ho _ (by omega)]
    exact r4 c a b
  · rw [hk 1 (by decide)] at b
    rw [ho _ (by omega), ho _ (by omega), ho _ (by omega), ho _ (by omega)]
    exact r5 t' a b
  · rw [hk 22 (by decide)] at b
    rw [ho _ (by omega)]
    exact r6 c a b
  · rw [hk 2 (by decide)] at b
    have c := r7 l' a b
    by_cases q : l' = l
    · subst q
      rw [ho (318 + 7 * l' + 0) (by omega), hk 15 (by decide), ho (318 + 7 * l' + 1) (by omega), hk 16 (by decide), ho (318 + 7 * l' + 2) (by omega), hk 17 (by decide), ho (318 + 7 * l' + 3) (by omega), hk 18 (by decide), ho (318 + 7 * l' + 4) (by omega), hk 19 (by decide), upN_at, up3_at, ho (318 + 7 * l' + 6) (by omega), hk 21 (by decide)]
      exact ⟨c.1, c.2.1, c.2.2.1, c.2.2.2.1, c.2.2.2.2.1, rfl, c.2.2.2.2.2.2⟩
    · rw [ho (318 + 7 * l' + 0) (by omega), ho (318 + 7 * l' + 1) (by omega), ho (318 + 7 * l' + 2) (by omega), ho (318 + 7 * l' + 3) (by omega), ho (318 + 7 * l' + 4) (by omega), ho (318 + 7 * l' + 5) (by omega), ho (318 + 7 * l' + 6) (by omega), up3_off q, hk 15 (by decide), hk 16 (by decide), hk 17 (by decide), hk 18 (by decide), hk 19 (by decide), hk 21 (by decide)]
      exact c
theorem R_loan21 {m : Mem} {p s : Nat} {N : Int → Int} {l z z' : Int} (e : z' = z) (hP : BP m p) (hB : NB m s) (hR : RP m p N) (hS : RS m p s N) (h0 : 0 ≤ l) (h1 : l < m 2 s 0) : RP (up3 m 21 s l z) p (upN N (318 + 7 * l + 6) z') ∧ RS (up3 m 21 s l z) p s (upN N (318 + 7 * l + 6) z') := by
  subst e
  have hk : ∀ k, k ≠ 21 → up3 m 21 s l z' k = m k := fun k h => up3_k h
  have n8 := hP.2.2.1
  have n12 := hP.2.2.2.2.2.1
  have nc := hP.2.2.2.2.2.2.1
  have n16 := hB.1
  have n16b := hB.2
  have ho : ∀ j, j ≠ 318 + 7 * l + 6 → upN N (318 + 7 * l + 6) z' j = N j := fun j a => upN_off a
  refine ⟨hR.congr hP (fun k a b => by rw [hk k (by omega)]) (fun j hj => ho j (by unfold plI at hj; omega)), ?_⟩
  obtain ⟨r1, r2, r3, r4, r5, r6, r7⟩ := hS
  refine ⟨?_, fun q' a b => ?_, fun q' a b => ?_, fun c a b => ?_, fun t' a b => ?_, fun c a b => ?_, fun l' a b => ?_⟩
  · obtain ⟨a1, a2, a3, a4, a5, a6, a7⟩ := r1
    exact ⟨by rw [ho _ (by omega)]; exact a1, by rw [ho _ (by omega)]; exact a2, by rw [ho _ (by omega)]; exact a3, by rw [ho _ (by omega)]; exact a4, by rw [ho _ (by omega)]; exact a5, by rw [ho _ (by omega)]; exact a6, by rw [ho _ (by omega)]; exact a7⟩
  · rw [hk 22 (by decide)] at b
    rw [ho _ (by omega), ho _ (by omega), ho _ (by omega)]
    exact r2 q' a b
  · rw [hk 22 (by decide)] at b
    rw [ho _ (by omega), ho _ (by omega)]
    exact r3 q' a b
  · rw [hk 22 (by decide)] at b
    rw [ho _ (by omega), ho _ (by omega), ho _ (by omega)]
    exact r4 c a b
  · rw [hk 1 (by decide)] at b
    rw [ho _ (by omega), ho _ (by omega), ho _ (by omega), ho _ (by omega)]
    exact r5 t' a b
  · rw [hk 22 (by decide)] at b
    rw [ho _ (by omega)]
    exact r6 c a b
  · rw [hk 2 (by decide)] at b
    have c := r7 l' a b
    by_cases q : l' = l
    · subst q
      rw [ho (318 + 7 * l' + 0) (by omega), hk 15 (by decide), ho (318 + 7 * l' + 1) (by omega), hk 16 (by decide), ho (318 + 7 * l' + 2) (by omega), hk 17 (by decide), ho (318 + 7 * l' + 3) (by omega), hk 18 (by decide), ho (318 + 7 * l' + 4) (by omega), hk 19 (by decide), ho (318 + 7 * l' + 5) (by omega), hk 20 (by decide), upN_at, up3_at]
      exact ⟨c.1, c.2.1, c.2.2.1, c.2.2.2.1, c.2.2.2.2.1, c.2.2.2.2.2.1, rfl⟩
    · rw [ho (318 + 7 * l' + 0) (by omega), ho (318 + 7 * l' + 1) (by omega), ho (318 + 7 * l' + 2) (by omega), ho (318 + 7 * l' + 3) (by omega), ho (318 + 7 * l' + 4) (by omega), ho (318 + 7 * l' + 5) (by omega), ho (318 + 7 * l' + 6) (by omega), up3_off q, hk 15 (by decide), hk 16 (by decide), hk 17 (by decide), hk 18 (by decide), hk 19 (by decide), hk 20 (by decide)]
      exact c
theorem R_broken {m : Mem} {p s : Nat} {N : Int → Int} {c z z' : Int} (e : z' = z) (hP : BP m p) (hB : NB m s) (hR : RP m p N) (hS : RS m p s N) (h0 : 0 ≤ c) (h1 : c < m 22 p 6) : RP (up3 m 10 s c z) p (upN N (270 + 6 * c + 5) z') ∧ RS (up3 m 10 s c z) p s (upN N (270 + 6 * c + 5) z') := by
  subst e
  have hk : ∀ k, k ≠ 10 → up3 m 10 s c z' k = m k := fun k h => up3_k h
  have n8 := hP.2.2.1
  have n12 := hP.2.2.2.2.2.1
  have nc := hP.2.2.2.2.2.2.1
  have n16 := hB.1
  have n16b := hB.2
  have ho : ∀ j, j ≠ 270 + 6 * c + 5 → upN N (270 + 6 * c + 5) z' j = N j := fun j a => upN_off a
  refine ⟨hR.congr hP (fun k a b => by rw [hk k (by omega)]) (fun j hj => ho j (by unfold plI at hj; omega)), ?_⟩
  obtain ⟨r1, r2, r3, r4, r5, r6, r7⟩ := hS
  refine ⟨?_, fun q' a b => ?_, fun q' a b => ?_, fun c' a b => ?_, fun t' a b => ?_, fun c' a b => ?_, fun l' a b => ?_⟩
  · obtain ⟨a1, a2, a3, a4, a5, a6, a7⟩ := r1
    exact ⟨by rw [ho _ (by omega)]; exact a1, by rw [ho _ (by omega)]; exact a2, by rw [ho _ (by omega)]; exact a3, by rw [ho _ (by omega)]; exact a4, by rw [ho _ (by omega)]; exact a5, by rw [ho _ (by omega)]; exact a6, by rw [ho _ (by omega)]; exact a7⟩
  · rw [hk 22 (by decide)] at b
    rw [ho _ (by omega), ho _ (by omega), ho _ (by omega)]
    exact r2 q' a b
  · rw [hk 22 (by decide)] at b
    rw [ho _ (by omega), ho _ (by omega)]
    exact r3 q' a b
  · rw [hk 22 (by decide)] at b
    rw [ho _ (by omega), ho _ (by omega), ho _ (by omega)]
    exact r4 c' a b
  · rw [hk 1 (by decide)] at b
    rw [ho _ (by omega), ho _ (by omega), ho _ (by omega), ho _ (by omega)]
    exact r5 t' a b
  · rw [hk 22 (by decide)] at b
    by_cases q : c' = c
    · rw [q, upN_at, up3_at]
    · rw [ho _ (by omega), up3_off q]; exact r6 c' a b
  · rw [hk 2 (by decide)] at b
    rw [ho _ (by omega), ho _ (by omega), ho _ (by omega), ho _ (by omega), ho _ (by omega), ho _ (by omega), ho _ (by omega)]
    exact r7 l' a b
theorem R8_of {m m' : Mem} {p s : Nat} {N N' : Int → Int} (hP : BP m p) (h : R8 m p s N) (e8 : m' 8 = m 8) (e22 : m' 22 = m 22) (eN : ∀ c, 0 ≤ c → c < 12 → N' (86 + 6 * c + 4) = N (86 + 6 * c + 4)) : R8 m' p s N' := by
  intro c a b
  have n12 := hP.2.2.2.2.2.1
  rw [e22] at b
  rw [e8, eN c a (by omega)]
  exact h c a b
/-- something goes through a cable, side by side -/
def carryN (N : Int → Int) (c x y : Int) : Int → Int := upN (upN (upN N (86 + 6 * c + 4) (N (86 + 6 * c + 4) + x)) (86 + 6 * c + 5) (upN N (86 + 6 * c + 4) (N (86 + 6 * c + 4) + x) (86 + 6 * c + 5) + y)) 12 (upN (upN N (86 + 6 * c + 4) (N (86 + 6 * c + 4) + x)) (86 + 6 * c + 5) (upN N (86 + 6 * c + 4) (N (86 + 6 * c + 4) + x) (86 + 6 * c + 5) + y) 12 + y)
theorem carryN_ap {N : Int → Int} {c x y : Int} (hc : 0 ≤ c) (j : Int) : carryN N c x y j = if j = 86 + 6 * c + 4 then N (86 + 6 * c + 4) + x else if j = 86 + 6 * c + 5 then N (86 + 6 * c + 5) + y else if j = 12 then N 12 + y else N j := by
  unfold carryN
  by_cases h12 : j = 12
  · subst h12
    rw [upN_at, if_neg (by omega), if_neg (by omega), if_pos rfl, upN_off (by omega), upN_off (by omega)]
  · rw [upN_off h12]
    by_cases h5 : j = 86 + 6 * c + 5
    · subst h5
      rw [upN_at, if_neg (by omega), if_pos rfl, upN_off (by omega)]
    · rw [upN_off h5]
      by_cases h4 : j = 86 + 6 * c + 4
      · subst h4
        rw [upN_at, if_pos rfl]
      · rw [upN_off h4, if_neg h4, if_neg h5, if_neg h12]
theorem carry_9 (m : Mem) (s : Nat) (c x j : Int) : carryC m s c x 9 s j = if j = c then m 9 s c + x * m 6 s c / 1000 else m 9 s j := by
  unfold carryC
  by_cases h : j = c
  · rw [if_pos h, h, up3_at]
  · rw [if_neg h, up3_off h]; rfl
theorem R_carry {m : Mem} {p s : Nat} {N : Int → Int} {c x y : Int} (hP : BP m p) (hB : BS m p s) (hR : RP m p N) (hS : RS m p s N) (h8 : R8 m p s N) (h0 : 0 ≤ c) (h1 : c < m 22 p 5) (hy : y = x * m 6 s c / 1000) : RP (carryC m s c x) p (carryN N c x y) ∧ RS (carryC m s c x) p s (carryN N c x y) ∧ R8 (carryC m s c x) p s (carryN N c x y) := by
  have hk : ∀ k, k ≠ 8 → k ≠ 9 → carryC m s c x k = m k := fun k a b => carry_k a b
  have n8 := hP.2.2.1
  have n12 := hP.2.2.2.2.2.1
  have nc := hP.2.2.2.2.2.2.1
  have n16 := hB.2.2.2.1.1
  have n16b := hB.2.2.2.2.1.1
  have hN := fun j => carryN_ap (N := N) (x := x) (y := y) h0 j
  have ho : ∀ j, j ≠ 86 + 6 * c + 4 → j ≠ 86 + 6 * c + 5 → j ≠ 12 → carryN N c x y j = N j := fun j a b d => by rw [hN, if_neg a, if_neg b, if_neg d]
  refine ⟨hR.congr hP (fun k a b => by rw [hk k (by omega) (by omega)]) (fun j hj => ho j (by unfold plI at hj; omega) (by unfold plI at hj; omega) (by unfold plI at hj; omega)), ?_, ?_⟩
  · obtain ⟨r1, r2, r3, r4, r5, r6, r7⟩ := hS
    refine ⟨?_, fun q' a b => ?_, fun q' a b => ?_, fun c' a b => ?_, fun t' a b => ?_, fun c' a b => ?_, fun l' a b => ?_⟩
    · obtain ⟨a1, a2, a3, a4, a5, a6, a7⟩ := r1
      refine ⟨by rw [ho _ (by omega) (by omega) (by omega)]; exact a1, by rw [ho _ (by omega) (by omega) (by omega)]; exact a2, by rw [ho _ (by omega) (by omega) (by omega)]; exact a3, ?_, by rw [ho _ (by omega) (by omega) (by omega)]; exact a5, by rw [ho _ (by omega) (by omega) (by omega)]; exact a6, by rw [ho _ (by omega) (by omega) (by omega)]; exact a7⟩
      rw [hN, if_neg (by omega), if_neg (by omega), if_pos rfl, a4, hk 22 (by decide) (by decide)]
      rw [sm_upd (f := m 9 s) (f' := carryC m s c x 9 s) (t := c) _ (fun i i0 i1 hi => by rw [carry_9, if_neg hi]) h0 (by omega), carry_9, if_pos rfl, hy]
      omega
    · rw [hk 22 (by decide) (by decide)] at b
      rw [ho _ (by omega) (by omega) (by omega), ho _ (by omega) (by omega) (by omega), ho _ (by omega) (by omega) (by omega)]
      exact r2 q' a b
    · rw [hk 22 (by decide) (by decide)] at b
      rw [ho _ (by omega) (by omega) (by omega), ho _ (by omega) (by omega) (by omega)]
      exact r3 q' a b
    · rw [hk 22 (by decide) (by decide)] at b
      have d := r4 c' a b
      rw [ho (86 + 6 * c' + 2) (by omega) (by omega) (by omega), ho (86 + 6 * c' + 3) (by omega) (by omega) (by omega), hk 6 (by decide) (by decide), hk 7 (by decide) (by decide), carry_9]
      refine ⟨d.1, d.2.1, ?_⟩
      by_cases q : c' = c
      · subst q
        rw [hN, if_neg (by omega), if_pos rfl, if_pos rfl, d.2.2, hy]
      · rw [ho _ (by omega) (by omega) (by omega), if_neg q]; exact d.2.2
    · rw [hk 1 (by decide) (by decide)] at b
      rw [ho _ (by omega) (by omega) (by omega), ho _ (by omega) (by omega) (by omega), ho _ (by omega) (by omega) (by omega), ho _ (by omega) (by omega) (by omega)]
      exact r5 t' a b
    · rw [hk 22 (by decide) (by decide)] at b
      rw [ho _ (by omega) (by omega) (by omega)]
      exact r6 c' a b
    · rw [hk 2 (by decide) (by decide)] at b
      rw [ho _ (by omega) (by omega) (by omega), ho _ (by omega) (by omega) (by omega), ho _ (by omega) (by omega) (by omega), ho _ (by omega) (by omega) (by omega), ho _ (by omega) (by omega) (by omega), ho _ (by omega) (by omega) (by omega), ho _ (by omega) (by omega) (by omega)]
      exact r7 l' a b
  · intro c' a b
    rw [hk 22 (by decide) (by decide)] at b
    rw [carry_8]
    by_cases q : c' = c
    · subst q
      rw [hN, if_pos rfl, if_pos rfl, h8 c' a b]
    · rw [ho _ (by omega) (by omega) (by omega), if_neg q]; exact h8 c' a b
def sendsN (N : Int → Int) (c from_ to x : Int) : Int → Int := getN (carryN (giveN N from_ x) c x (x * N (86 + 6 * c + 2) / 1000)) to (x - x * N (86 + 6 * c + 2) / 1000)
def cbN (N : Int → Int) (l : Int) : Int := betN N (N (270 + 6 * N (318 + 7 * l + 0) + 0)) (N (270 + 6 * N (318 + 7 * l + 0) + 1))
def aboveN (N : Int → Int) (q : Int) : Int := N (30 + 7 * q + 1) - N (30 + 7 * q + 4)
def freeN (N : Int → Int) (c : Int) : Int := max 0 (N (86 + 6 * c + 3) - N (86 + 6 * c + 4))
def snA (N : Int → Int) (l : Int) : Int := min (N (318 + 7 * l + 1) - N (318 + 7 * l + 2)) (min (max 0 (aboveN N (N (270 + 6 * N (318 + 7 * l + 0) + 0)))) (freeN N (cbN N l)))
def pfN (N : Int → Int) (q x : Int) : Int := min 100000000 (x * weightN N q)
def sn1 (N : Int → Int) (l : Int) : Int → Int := sendsN N (cbN N l) (N (270 + 6 * N (318 + 7 * l + 0) + 0)) (N (270 + 6 * N (318 + 7 * l + 0) + 1)) (snA N l)
def sn2 (N : Int → Int) (l : Int) : Int → Int := upN (sn1 N l) (318 + 7 * l + 3) (min 100000000 (N (318 + 7 * l + 3) + pfN N (N (270 + 6 * N (318 + 7 * l + 0) + 0)) (snA N l)))
def sn3 (N : Int → Int) (l : Int) : Int → Int := upN (sn2 N l) (318 + 7 * l + 2) (sn2 N l (318 + 7 * l + 2) + snA N l)
def snN (N : Int → Int) (l : Int) : Int → Int := if snA N l = N (318 + 7 * l + 1) - N (318 + 7 * l + 2) then upN (sn3 N l) (318 + 7 * l + 5) 1 else sn3 N l
def gbA (N : Int → Int) (l : Int) : Int := min ((owedN N l * 1000 + (1000 - N (86 + 6 * cbN N l + 2)) - 1) / (1000 - N (86 + 6 * cbN N l + 2))) (min (N (30 + 7 * N (270 + 6 * N (318 + 7 * l + 0) + 1) + 1)) (freeN N (cbN N l)))
def gbR (N : Int → Int) (l : Int) : Int := gbA N l - gbA N l * N (86 + 6 * cbN N l + 2) / 1000
def gb1 (N : Int → Int) (l : Int) : Int → Int := sendsN N (cbN N l) (N (270 + 6 * N (318 + 7 * l + 0) + 1)) (N (270 + 6 * N (318 + 7 * l + 0) + 0)) (gbA N l)
def gb2 (N : Int → Int) (l : Int) : Int → Int := upN (gb1 N l) (318 + 7 * l + 4) (gb1 N l (318 + 7 * l + 4) + gbR N l)
def gb3 (N : Int → Int) (l : Int) : Int → Int := if 0 < owedN N l then gb2 N l else N
def gbE (N : Int → Int) (l : Int) : Int → Int := if owedN N l = 0 then upN N (318 + 7 * l + 5) 3
  else if N (318 + 7 * l + 6) + N (270 + 6 * N (318 + 7 * l + 0) + 4) ≤ N 2 then upN (upN N (318 + 7 * l + 5) 4) (270 + 6 * N (318 + 7 * l + 0) + 5) 1 else N
def gbN (N : Int → Int) (l : Int) : Int → Int := gbE (gb3 N l) l
def lnA' (N : Int → Int) (l : Int) : Int → Int := if N (318 + 7 * l + 5) < 2 ∧ N (318 + 7 * l + 6) ≤ N 2 then upN N (318 + 7 * l + 5) 2 else N
def lnN (N : Int → Int) (l : Int) : Int → Int := if lnA' N l (318 + 7 * l + 5) = 0 then snN (lnA' N l) l else if lnA' N l (318 + 7 * l + 5) = 2 then gbN (lnA' N l) l else lnA' N l
def lnNL (N : Int → Int) (l : Int) : Nat → (Int → Int)
  | 0 => N
  | n + 1 => lnNL (lnN N l) (l + 1) n
theorem getN_lo {N : Int → Int} {q x j : Int} (hq : 0 ≤ q) (h1 : j ≠ 30 + 7 * q + 1) (h2 : j ≠ 13) : getN N q x j = N j := by rw [getN_ap hq, if_neg h1, if_neg h2]
theorem giveN_lo {N : Int → Int} {q x j : Int} (hq : 0 ≤ q) (h1 : j ≠ 30 + 7 * q + 1) (h2 : j ≠ 30 + 7 * q + 2) (h3 : j ≠ 13) : giveN N q x j = N j := by rw [giveN_ap hq, if_neg h2, if_neg h1, if_neg h3]
theorem carryN_lo {N : Int → Int} {c x y j : Int} (hc : 0 ≤ c) (h1 : j ≠ 86 + 6 * c + 4) (h2 : j ≠ 86 + 6 * c + 5) (h3 : j ≠ 12) : carryN N c x y j = N j := by rw [carryN_ap hc, if_neg h1, if_neg h2, if_neg h3]
theorem sendsN_lo {N : Int → Int} {c a b x j : Int} (hc : 0 ≤ c) (ha : 0 ≤ a) (hb : 0 ≤ b) (hj : 158 ≤ j) (hc2 : c < 12) (ha2 : a < 8) (hb2 : b < 8) : sendsN N c a b x j = N j := by
  unfold sendsN
  rw [getN_lo hb (by omega) (by omega), carryN_lo hc (by omega) (by omega) (by omega), giveN_lo ha (by omega) (by omega) (by omega)]
