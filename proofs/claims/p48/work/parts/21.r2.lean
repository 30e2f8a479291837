theorem sm_upd {f f' : Int → Int} {t : Int} : ∀ (n : Nat), (∀ i : Int, 0 ≤ i → i < n → i ≠ t → f' i = f i) → 0 ≤ t → t < n → sm f' n = sm f n + (f' t - f t) := by
  intro n
  induction n with
  | zero => intro _ h0 h1; omega
  | succ n ih =>
    intro h h0 h1
    show sm f' n + f' n = sm f n + f n + (f' t - f t)
    by_cases e : t = n
    · subst e
      rw [sm_congr (f := f') (g := f) (fun i a b => h i a (by omega) (by omega))]
      omega
    · rw [ih (fun i a b c => h i a (by omega) c) h0 (by omega), h n (by omega) (by omega) (fun z => e z.symm)]
      omega
theorem RS_low {m m' : Mem} {p s : Nat} {N N' : Int → Int} (hP : BP m p) (hB : BS m p s) (hm : ∀ k, k ≠ 0 → m' k = m k) (hN : ∀ j, 30 ≤ j → N' j = N j) (h1 : R1 m' p s N') (hS : RS m p s N) : RS m' p s N' := by
  obtain ⟨-, r2, r3, r4, r5, r6, r7⟩ := hS
  have hk : ∀ k, k ≠ 0 → m' k = m k := hm
  refine ⟨h1, fun q' a b => ?_, fun q' a b => ?_, fun c a b => ?_, fun t a b => ?_, fun c a b => ?_, fun l a b => ?_⟩
  · rw [hk 22 (by decide)] at b
    rw [hN _ (by omega), hN _ (by omega), hN _ (by omega), hk 3 (by decide), hk 4 (by decide), hk 5 (by decide)]
    exact r2 q' a b
  · rw [hk 22 (by decide)] at b
    rw [hN _ (by omega), hN _ (by omega), hk 1 (by decide)]
    have en : ∀ z, numC m' s q' z = numC m s q' z := fun z => by
      funext t; unfold numC; rw [hk 11 (by decide), hk 14 (by decide)]
    rw [en, en]; exact r3 q' a b
  · rw [hk 22 (by decide)] at b
    rw [hN _ (by omega), hN _ (by omega), hN _ (by omega), hk 6 (by decide), hk 7 (by decide), hk 9 (by decide)]
    exact r4 c a b
  · rw [hk 1 (by decide)] at b
    rw [hN _ (by omega), hN _ (by omega), hN _ (by omega), hN _ (by omega), hk 11 (by decide), hk 12 (by decide), hk 13 (by decide), hk 14 (by decide)]
    exact r5 t a b
  · rw [hk 22 (by decide)] at b
    rw [hN _ (by omega), hk 10 (by decide)]
    exact r6 c a b
  · rw [hk 2 (by decide)] at b
    rw [hN _ (by omega), hN _ (by omega), hN _ (by omega), hN _ (by omega), hN _ (by omega), hN _ (by omega), hN _ (by omega), hk 15 (by decide), hk 16 (by decide), hk 17 (by decide), hk 18 (by decide), hk 19 (by decide), hk 20 (by decide), hk 21 (by decide)]
    exact r7 l a b
theorem up3_k {m : Mem} {k i : Nat} {j z : Int} {k' : Nat} (h : k' ≠ k) : up3 m k i j z k' = m k' := by
  funext i' j'
  rw [up3_apply, if_neg (fun q => h q.1)]
theorem R_up10 {m : Mem} {p s : Nat} {N : Int → Int} {z z' : Int} (e : z' = z) (hP : BP m p) (hB : BS m p s) (hR : RP m p N) (hS : RS m p s N) : RP (up3 m 0 s 1 z) p (upN N 10 z') ∧ RS (up3 m 0 s 1 z) p s (upN N 10 z') := by
  subst e
  refine ⟨hR.congr hP (fun k a b => by rw [up3_k (by omega)]) (fun j hj => upN_off (by unfold plI at hj; omega)), RS_low hP hB (fun k h => up3_k h) (fun j hj => upN_off (by omega)) ?_ hS⟩
  obtain ⟨a1, a2, a3, a4, a5, a6, a7⟩ := hS.1
  exact ⟨by rw [upN_off (by omega), up3_off (by omega)]; exact a1, by rw [upN_at, up3_at], by rw [upN_off (by omega), up3_off (by omega)]; exact a3, by rw [upN_off (by omega)]; exact a4, by rw [upN_off (by omega), up3_off (by omega)]; exact a5, by rw [upN_off (by omega)]; exact a6, by rw [upN_off (by omega)]; exact a7⟩
theorem R_up11 {m : Mem} {p s : Nat} {N : Int → Int} {z z' : Int} (e : z' = z) (hP : BP m p) (hB : BS m p s) (hR : RP m p N) (hS : RS m p s N) : RP (up3 m 0 s 2 z) p (upN N 11 z') ∧ RS (up3 m 0 s 2 z) p s (upN N 11 z') := by
  subst e
  refine ⟨hR.congr hP (fun k a b => by rw [up3_k (by omega)]) (fun j hj => upN_off (by unfold plI at hj; omega)), RS_low hP hB (fun k h => up3_k h) (fun j hj => upN_off (by omega)) ?_ hS⟩
  obtain ⟨a1, a2, a3, a4, a5, a6, a7⟩ := hS.1
  exact ⟨by rw [upN_off (by omega), up3_off (by omega)]; exact a1, by rw [upN_off (by omega), up3_off (by omega)]; exact a2, by rw [upN_at, up3_at], by rw [upN_off (by omega)]; exact a4, by rw [upN_off (by omega), up3_off (by omega)]; exact a5, by rw [upN_off (by omega)]; exact a6, by rw [upN_off (by omega)]; exact a7⟩
theorem R_time {m : Mem} {p s : Nat} {N : Int → Int} {z z' : Int} (e : z' = z) (hP : BP m p) (hB : BS m p s) (hR : RP m p N) (hS : RS m p s N) : RP (up3 m 0 s 0 z) p (upN N 2 z') ∧ RS (up3 m 0 s 0 z) p s (upN N 2 z') := by
  subst e
  refine ⟨hR.congr hP (fun k a b => by rw [up3_k (by omega)]) (fun j hj => upN_off (by unfold plI at hj; omega)), RS_low hP hB (fun k h => up3_k h) (fun j hj => upN_off (by omega)) ?_ hS⟩
  obtain ⟨a1, a2, a3, a4, a5, a6, a7⟩ := hS.1
  exact ⟨by rw [upN_at, up3_at], by rw [upN_off (by omega), up3_off (by omega)]; exact a2, by rw [upN_off (by omega), up3_off (by omega)]; exact a3, by rw [upN_off (by omega)]; exact a4, by rw [upN_off (by omega), up3_off (by omega)]; exact a5, by rw [upN_off (by omega)]; exact a6, by rw [upN_off (by omega)]; exact a7⟩
/-- the suns, side by side -/
def shN1 (N : Int → Int) (hr q : Int) : Int → Int := getN (upN N 10 (N 10 + gainN N q hr)) q (gainN N q hr)
def shNL (N : Int → Int) (hr q : Int) : Nat → (Int → Int)
  | 0 => N
  | n + 1 => shNL (shN1 N hr q) hr (q + 1) n
theorem getN_0 {N : Int → Int} {q : Int} (hq : 0 ≤ q) (h : N (30 + 7 * q + 1) ≤ roomN N q) : getN N q 0 = N := by
  funext j
  rw [getN_ap hq]
  split
  · rename_i e; rw [e]; omega
  · split
    · rename_i e; rw [e]; omega
    · rfl
theorem upN_same (N : Int → Int) (j : Int) : upN N j (N j) = N := by
  funext i
  rw [upN_ap]
  split
  · rename_i e; rw [e]
  · rfl
theorem R_sh {m : Mem} {p s : Nat} {N : Int → Int} {hr q : Int} (hP : BP m p) (hB : BS m p s) (hR : RP m p N) (hS : RS m p s N) (h0 : 0 ≤ q) (h1 : q < m 22 p 2) (hh : 0 ≤ hr ∧ hr < 24) : RP (shStep m p s hr q) p (shN1 N hr q) ∧ RS (shStep m p s hr q) p s (shN1 N hr q) := by
  have g := hR.2.2.2.1 q hr h0 h1 hh.1 hh.2
  have gb := hP.2.2.2.2.2.2.2.2.2.1 q hr h0 h1 hh.1 hh.2
  unfold shN1 shStep
  rw [g]
  by_cases c : 0 < m 26 p (q * 24 + hr)
  · rw [if_pos c]
    have u := R_up10 (m := m) (s := s) (N := N) (z := m 0 s 1 + m 26 p (q * 24 + hr)) (z' := N 10 + m 26 p (q * 24 + hr)) (by rw [hS.1.2.1]) hP hB hR hS
    exact R_get (m := up3 m 0 s 1 (m 0 s 1 + m 26 p (q * 24 + hr))) hP (BS_up0 (by decide) hB) u.1 u.2 h0 h1
  · rw [if_neg c]
    have e : m 26 p (q * 24 + hr) = 0 := by omega
    rw [e, Int.add_zero, upN_same, getN_0 h0 (by rw [R_room hR hS h0 h1, (hS.2.1 q h0 h1).1]; exact (hB.2.1 q h0 h1).1.2)]
    exact ⟨hR, hS⟩
theorem R_shL {p s : Nat} {hr : Int} (hh : 0 ≤ hr ∧ hr < 24) : ∀ (n : Nat) (m : Mem) (N : Int → Int) (q : Int), BP m p → BS m p s → RP m p N → RS m p s N → 0 ≤ q → q + n = m 22 p 2 → RP (shL m p s hr q n) p (shNL N hr q n) ∧ RS (shL m p s hr q n) p s (shNL N hr q n) := by
  intro n
  induction n with
  | zero => intro m N q _ _ hR hS _ _; exact ⟨hR, hS⟩
  | succ n ih =>
    intro m N q hP hB hR hS h0 h1
    have b := BS_sh (hr := hr) hP hB h0 (by omega)
    have r := R_sh (hr := hr) hP hB hR hS h0 (by omega) hh
    exact ih _ _ (q + 1) b.1 b.2 r.1 r.2 (by omega) (by rw [shStep_k (by decide) (by decide)]; omega)
/-- a trip, side by side -/
def trS (N : Int → Int) (t : Int) : Int := if N (206 + 4 * t + 2) ≤ N (30 + 7 * N (206 + 4 * t + 0) + 1) then 1 else 2
def trN1 (N : Int → Int) (t : Int) : Int → Int := upN N (206 + 4 * t + 3) (trS N t)
def trN2 (N : Int → Int) (t : Int) : Int → Int := upN (trN1 N t) (30 + 7 * N (206 + 4 * t + 0) + (trS N t + 4)) (trN1 N t (30 + 7 * N (206 + 4 * t + 0) + (trS N t + 4)) + 1)
def trN3 (N : Int → Int) (t : Int) : Int → Int := if N (206 + 4 * t + 2) ≤ N (30 + 7 * N (206 + 4 * t + 0) + 1) then giveN (upN (trN2 N t) 11 (trN2 N t 11 + N (206 + 4 * t + 2))) (N (206 + 4 * t + 0)) (N (206 + 4 * t + 2)) else trN2 N t
def trN (N : Int → Int) (t : Int) : Int → Int := if N (206 + 4 * t + 1) = N 2 ∧ N (206 + 4 * t + 3) = 0 then trN3 N t else N
def trNL (N : Int → Int) (t : Int) : Nat → (Int → Int)
  | 0 => N
  | n + 1 => trNL (trN N t) (t + 1) n
theorem R_mark {m : Mem} {p s : Nat} {N : Int → Int} {t z : Int} (hP : BP m p) (hB : BS m p s) (hR : RP m p N) (hS : RS m p s N) (h0 : 0 ≤ t) (h1 : t < m 1 s 0) (hz : z = 1 ∨ z = 2) (h2 : m 14 s t = 0) :
    RP (up3 m 14 s t z) p (upN (upN N (206 + 4 * t + 3) z) (30 + 7 * N (206 + 4 * t + 0) + (z + 4)) (upN N (206 + 4 * t + 3) z (30 + 7 * N (206 + 4 * t + 0) + (z + 4)) + 1)) ∧ RS (up3 m 14 s t z) p s (upN (upN N (206 + 4 * t + 3) z) (30 + 7 * N (206 + 4 * t + 0) + (z + 4)) (upN N (206 + 4 * t + 3) z (30 + 7 * N (206 + 4 * t + 0) + (z + 4)) + 1)) := by
  have hk : ∀ k, k ≠ 14 → up3 m 14 s t z k = m k := fun k h => up3_k h
  have n8 := hP.2.2.1
  have n12 := hP.2.2.2.2.2.1
  have n16 := hB.2.2.2.1.1
  have hb := (hB.2.2.2.1.2 t h0 h1).1
  have ht := hS.2.2.2.2.1 t h0 h1
  rw [ht.1]
  have ho : ∀ j, j ≠ 206 + 4 * t + 3 → j ≠ 30 + 7 * m 11 s t + (z + 4) → upN (upN N (206 + 4 * t + 3) z) (30 + 7 * m 11 s t + (z + 4)) (upN N (206 + 4 * t + 3) z (30 + 7 * m 11 s t + (z + 4)) + 1) j = N j := fun j a b => by rw [upN_off b, upN_off a]
  refine ⟨hR.congr hP (fun k a b => by rw [hk k (by omega)]) (fun j hj => ho j (by unfold plI at hj; omega) (by unfold plI at hj; omega)), ?_⟩
  obtain ⟨r1, r2, r3, r4, r5, r6, r7⟩ := hS
  refine ⟨?_, fun q' a b => ?_, fun q' a b => ?_, fun c a b => ?_, fun t' a b => ?_, fun c a b => ?_, fun l a b => ?_⟩
  · obtain ⟨a1, a2, a3, a4, a5, a6, a7⟩ := r1
    exact ⟨by rw [ho _ (by omega) (by omega)]; exact a1, by rw [ho _ (by omega) (by omega)]; exact a2, by rw [ho _ (by omega) (by omega)]; exact a3, by rw [ho _ (by omega) (by omega)]; exact a4, by rw [ho _ (by omega) (by omega)]; exact a5, by rw [ho _ (by omega) (by omega)]; exact a6, by rw [ho _ (by omega) (by omega)]; exact a7⟩
  · rw [hk 22 (by decide)] at b
    rw [ho _ (by omega) (by omega), ho _ (by omega) (by omega), ho _ (by omega) (by omega)]
    exact r2 q' a b
  · rw [hk 22 (by decide)] at b
    have c := r3 q' a b
    have key : ∀ y, sm (numC (up3 m 14 s t z) s q' y) (m 1 s 0).toNat = sm (numC m s q' y) (m 1 s 0).toNat + (numC (up3 m 14 s t z) s q' y t - numC m s q' y t) := fun y => sm_upd (t := t) _ (fun i i0 i1 hi => by unfold numC; rw [up3_off hi]; rfl) h0 (by omega)
    have e1 : up3 m 14 s t z 1 s 0 = m 1 s 0 := rfl
    have ea : ∀ y, numC (up3 m 14 s t z) s q' y t = if m 11 s t = q' ∧ z = y then 1 else 0 := fun y => by unfold numC; rw [up3_at]; rfl
    have eb : ∀ y, 1 ≤ y → numC m s q' y t = 0 := fun y hy => by unfold numC; rw [if_neg (by omega)]
    rw [e1, key 1, key 2, ea, ea, eb 1 (by decide), eb 2 (by decide)]
    by_cases e : q' = m 11 s t
    · rcases hz with rfl | rfl
      · rw [if_pos ⟨e.symm, rfl⟩, if_neg (by omega), show (30 + 7 * m 11 s t + ((1 : Int) + 4)) = 30 + 7 * q' + 5 by omega, upN_at, upN_off (show 30 + 7 * q' + 6 ≠ _ by omega), upN_off (by omega), upN_off (by omega)]
        omega
      · rw [if_neg (by omega), if_pos ⟨e.symm, rfl⟩, show (30 + 7 * m 11 s t + ((2 : Int) + 4)) = 30 + 7 * q' + 6 by omega, upN_at, upN_off (show 30 + 7 * q' + 5 ≠ _ by omega), upN_off (by omega), upN_off (by omega)]
        omega
    · rw [ho _ (by omega) (by omega), ho _ (by omega) (by omega), if_neg (fun w => e w.1.symm), if_neg (fun w => e w.1.symm)]
      omega
  · rw [hk 22 (by decide)] at b
    rw [ho _ (by omega) (by omega), ho _ (by omega) (by omega), ho _ (by omega) (by omega)]
    exact r4 c a b
  · rw [hk 1 (by decide)] at b
    have c := r5 t' a b
    rw [ho _ (by omega) (by omega), ho _ (by omega) (by omega), ho _ (by omega) (by omega)]
    refine ⟨c.1, c.2.1, c.2.2.1, ?_⟩
    by_cases e : t' = t
    · subst e
      rw [upN_off (by omega), upN_at, up3_at]
    · rw [ho _ (by omega) (by omega), up3_off e]
      exact c.2.2.2
  · rw [hk 22 (by decide)] at b
    have nc := hP.2.2.2.2.2.2.1
    rw [ho _ (by omega) (by omega)]
    exact r6 c a b
  · rw [ho _ (by omega) (by omega), ho _ (by omega) (by omega), ho _ (by omega) (by omega), ho _ (by omega) (by omega), ho _ (by omega) (by omega), ho _ (by omega) (by omega), ho _ (by omega) (by omega)]
    exact r7 l a b
theorem R_tr {m : Mem} {p s : Nat} {N : Int → Int} {t : Int} (hP : BP m p) (hB : BS m p s) (hR : RP m p N) (hS : RS m p s N) (h0 : 0 ≤ t) (h1 : t < m 1 s 0) : RP (trStep m p s t) p (trN N t) ∧ RS (trStep m p s t) p s (trN N t) := by
  have ht := hS.2.2.2.2.1 t h0 h1
  have hb := hB.2.2.2.1.2 t h0 h1
  have hq := hS.2.1 _ hb.1.1 hb.1.2
  have n8 := hP.2.2.1
  unfold trN trStep
  rw [ht.2.1, ht.2.2.2, hS.1.1]
  by_cases c : m 12 s t = m 0 s 0 ∧ m 14 s t = 0
  · rw [if_pos c, if_pos c]
    have es : trS N t = if m 13 s t ≤ m 3 s (m 11 s t) then 1 else 2 := by unfold trS; rw [ht.1, ht.2.2.1, hq.1]
    unfold trN3
    rw [ht.2.2.1, ht.1, hq.1]
    by_cases d : m 13 s t ≤ m 3 s (m 11 s t)
    · rw [if_pos d, if_pos d]
      rw [if_pos d] at es
      have u := R_mark (z := 1) hP hB hR hS h0 h1 (Or.inl rfl) c.2
      have e2 : trN2 N t = upN (upN N (206 + 4 * t + 3) 1) (30 + 7 * N (206 + 4 * t + 0) + (1 + 4)) (upN N (206 + 4 * t + 3) 1 (30 + 7 * N (206 + 4 * t + 0) + (1 + 4)) + 1) := by unfold trN2 trN1; rw [es]
      rw [← e2] at u
      have v := R_up11 (m := up3 m 14 s t 1) (z := m 0 s 2 + m 13 s t) (z' := trN2 N t 11 + m 13 s t) (by rw [u.2.1.2.2.1]; rfl) hP (BS_up14 (by decide) hB) u.1 u.2
      exact R_give (m := up3 (up3 m 14 s t 1) 0 s 2 (m 0 s 2 + m 13 s t)) hP (BS_up0 (by decide) (BS_up14 (by decide) hB)) v.1 v.2 hb.1.1 hb.1.2
    · rw [if_neg d, if_neg d]
      rw [if_neg d] at es
      have u := R_mark (z := 2) hP hB hR hS h0 h1 (Or.inr rfl) c.2
      have e2 : trN2 N t = upN (upN N (206 + 4 * t + 3) 2) (30 + 7 * N (206 + 4 * t + 0) + (2 + 4)) (upN N (206 + 4 * t + 3) 2 (30 + 7 * N (206 + 4 * t + 0) + (2 + 4)) + 1) := by unfold trN2 trN1; rw [es]
      rw [← e2] at u
      exact u
  · rw [if_neg c, if_neg c]
    exact ⟨hR, hS⟩
theorem R_trL {p s : Nat} : ∀ (n : Nat) (m : Mem) (N : Int → Int) (t : Int), BP m p → BS m p s → RP m p N → RS m p s N → 0 ≤ t → t + n ≤ m 1 s 0 → RP (trL m p s t n) p (trNL N t n) ∧ RS (trL m p s t n) p s (trNL N t n) := by
  intro n
  induction n with
  | zero => intro m N t _ _ hR hS _ _; exact ⟨hR, hS⟩
  | succ n ih =>
    intro m N t hP hB hR hS h0 h1
    have b := BS_tr hP hB h0 (by omega)
    have r := R_tr hP hB hR hS h0 (by omega)
    exact ih _ _ (t + 1) b.1 b.2 r.1 r.2 (by omega) (by rw [trStep_k (by decide) (by decide) (by decide) (by decide)]; omega)
