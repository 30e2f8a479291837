/-! a tick leaves the cables' ends alone -/
def CJ (j : Int) : Prop := 86 ≤ j ∧ j < 158 ∧ (j - 86) % 6 < 2
theorem sendsN_c {N : Int → Int} {c a b x j : Int} (hj : CJ j) (ha : 0 ≤ a ∧ a < 8) (hb : 0 ≤ b ∧ b < 8) (hc : 0 ≤ c) : sendsN N c a b x j = N j := by
  unfold CJ at hj
  unfold sendsN
  rw [getN_lo hb.1 (by omega) (by omega), carryN_lo hc (by omega) (by omega) (by omega), giveN_lo ha.1 (by omega) (by omega) (by omega)]
theorem snN_c {N : Int → Int} (h : G8 N) {l j : Int} (h0 : 0 ≤ l) (h1 : l < N 9) (hj : CJ j) (n3 : N 3 ≤ 8) : snN N l j = N j := by
  obtain ⟨k, x, y, c, fk, fx, fy, fc, hk, hx, hy, hc⟩ := h.loan h0 h1
  have e : sn1 N l j = N j := by
    unfold sn1 cbN
    rw [fk, fx, fy, fc]
    exact sendsN_c hj (by omega) (by omega) (by omega)
  unfold CJ at hj
  have e3 : sn3 N l j = N j := by
    unfold sn3 sn2
    rw [upN_off (by omega), upN_off (by omega)]
    exact e
  unfold snN
  split
  · rw [upN_off (by omega)]; exact e3
  · exact e3
theorem gbN_c {N : Int → Int} (h : G8 N) {l j : Int} (h0 : 0 ≤ l) (h1 : l < N 9) (hj : CJ j) (n3 : N 3 ≤ 8) (n5 : N 5 ≤ 12) : gbN N l j = N j := by
  obtain ⟨k, x, y, c, fk, fx, fy, fc, hk, hx, hy, hc⟩ := h.loan h0 h1
  have eb : gb1 N l = sendsN N c y x (gbA N l) := by
    unfold gb1 cbN
    rw [fk, fx, fy, fc]
  have e3 : gb3 N l j = N j ∧ gb3 N l (318 + 7 * l + 0) = k := by
    unfold gb3
    split
    · unfold gb2
      have hj' := hj
      unfold CJ at hj'
      rw [upN_off (by omega), upN_off (by omega), eb, sendsN_c hj (by omega) (by omega) (by omega), sendsN_lo (by omega) (by omega) (by omega) (by omega) (by omega) (by omega) (by omega)]
      exact ⟨rfl, fk⟩
    · exact ⟨rfl, fk⟩
  unfold CJ at hj
  unfold gbN gbE
  split
  · rw [upN_off (by omega)]; exact e3.1
  · split
    · rw [e3.2, upN_off (by omega), upN_off (by omega)]; exact e3.1
    · exact e3.1
theorem G8.n {N : Int → Int} (h : G8 N) : N 3 ≤ 8 ∧ N 5 ≤ 12 := by
  obtain ⟨m, p, s, a, b, c, d, e, f⟩ := h
  have d3 := d.1.2.2.1
  have d5 := d.1.2.2.2.2.2.1
  have a3 := a.2.2.1
  have a5 := a.2.2.2.2.2.1
  omega
theorem G8.lnc {N : Int → Int} (h : G8 N) {l j : Int} (h0 : 0 ≤ l) (h1 : l < N 9) (hj : CJ j) : lnN N l j = N j := by
  have hA := h.lnA h0 h1
  have eA : ∀ i, i ≠ 318 + 7 * l + 5 → lnA' N l i = N i := fun i hi => by
    unfold lnA'
    split
    · rw [upN_off hi]
    · rfl
  have h9 : l < lnA' N l 9 := by rw [eA 9 (by omega)]; exact h1
  have hj' := hj
  unfold CJ at hj'
  have ej := eA j (by omega)
  unfold lnN
  split
  · rw [snN_c hA h0 h9 hj hA.n.1]; exact ej
  · split
    · rw [gbN_c hA h0 h9 hj hA.n.1 hA.n.2]; exact ej
    · exact ej
theorem lnNL_c {j : Int} (hj : CJ j) : ∀ (n : Nat) (N : Int → Int) (l : Int), G8 N → 0 ≤ l → l + n ≤ N 9 → lnNL N l n j = N j := by
  intro n
  induction n with
  | zero => intro N l _ _ _; rfl
  | succ n ih =>
    intro N l h h0 h1
    show lnNL (lnN N l) (l + 1) n j = _
    rw [ih _ _ (h.ln1 h0 (by omega)) (by omega) (by rw [h.ln9 h0 (by omega)]; omega), h.lnc h0 (by omega) hj]
theorem shNL_c {t j : Int} (hj : CJ j) : ∀ (n : Nat) (N : Int → Int) (q : Int), 0 ≤ q → q + n ≤ 8 → shNL N t q n j = N j := by
  intro n
  induction n with
  | zero => intro N q _ _; rfl
  | succ n ih =>
    intro N q h0 h1
    have hj' := hj
    unfold CJ at hj'
    show shNL (shN1 N t q) t (q + 1) n j = _
    rw [ih _ _ (by omega) (by omega), shN1_lo h0 (by omega) (by omega) (by omega)]
theorem GN.n {N : Int → Int} (h : GN N) : (0 ≤ N 3 ∧ N 3 ≤ 8) ∧ (0 ≤ N 7 ∧ N 7 ≤ 16) ∧ (0 ≤ N 9 ∧ N 9 ≤ 16) := by
  obtain ⟨m, p, s, a, b, c, d⟩ := h
  have d3 := c.1.2.2.1
  have d7 := d.1.2.2.2.2.2.1
  have d9 := d.1.2.2.2.2.2.2
  have a3 := a.2.2.1
  have a7 := b.2.2.2.1.1
  have a9 := b.2.2.2.2.1.1
  omega
theorem GN.trc {N : Int → Int} (h : GN N) {t j : Int} (h0 : 0 ≤ t) (h1 : t < N 7) (hj : CJ j) : trN N t j = N j := by
  have f := h.trip h0 h1
  have n := h.n
  unfold CJ at hj
  have b : trS N t = 1 ∨ trS N t = 2 := by unfold trS; split <;> omega
  have e2 : trN2 N t j = N j := by
    unfold trN2 trN1
    rw [upN_off (by omega), upN_off (by omega)]
  unfold trN trN3
  split
  · split
    · rw [giveN_lo f.1.1 (by omega) (by omega) (by omega), upN_off (by omega)]; exact e2
    · exact e2
  · rfl
theorem trNL_c {j : Int} (hj : CJ j) : ∀ (n : Nat) (N : Int → Int) (t : Int), GN N → 0 ≤ t → t + n ≤ N 7 → trNL N t n j = N j := by
  intro n
  induction n with
  | zero => intro N t _ _ _; rfl
  | succ n ih =>
    intro N t h h0 h1
    have q0 := (h.trip h0 (by omega)).1.1
    have q7 : trN N t 7 = N 7 := trN_hd (by omega) h0 q0
    show trNL (trN N t) (t + 1) n j = _
    rw [ih _ _ (h.tr h0 (by omega)) (by omega) (by rw [q7]; omega), h.trc h0 (by omega) hj]
theorem GN.tkc {N : Int → Int} (h : GN N) {j : Int} (hj : CJ j) : tkN N j = N j := by
  have n := h.n
  have e7 : tn1 N 7 = N 7 := shNL_hd (by omega) _ N 0 (by omega)
  have e1 : tn1 N j = N j := shNL_c hj _ N 0 (by omega) (by omega)
  have e2 : tn2 N j = N j := by
    unfold tn2
    rw [trNL_c hj _ _ _ h.t1 (by omega) (by omega)]
    exact e1
  have hj' := hj
  unfold CJ at hj'
  have e3 : tn3 N j = N j := by
    unfold tn3
    rw [clNL_ap _ _ _ (by omega), if_neg (by omega)]
    exact e2
  have e9 : tn3 N 9 = N 9 := tn3_hd h (by omega)
  unfold tkN
  rw [upN_off (by omega)]
  unfold tn4
  rw [lnNL_c hj _ _ _ h.t3 (by omega) (by omega)]
  exact e3
/-- heads of the row under a tick -/
theorem ST.tkhd {c : Mem} {N : Int → Int} {K : Nat} (h : ST c 0 0 N K) (ht : c 0 0 0 < 9999) : tkN N 3 = N 3 ∧ tkN N 5 = N 5 ∧ tkN N 2 = N 2 + 1 ∧ tkN N 9 = N 9 := by
  have k := h.tick ht
  have e22 : tkC c 0 0 22 = c 22 := (show tkL c 0 0 1 22 = c 22 from tkL_k (k := 22) (by omega) 1 c)
  have e2 : tkC c 0 0 2 = c 2 := (show tkL c 0 0 1 2 = c 2 from tkL_k (k := 2) (by omega) 1 c)
  refine ⟨?_, ?_, ?_, ?_⟩
  · rw [k.2.2.1.1.2.2.1, h.2.2.1.1.2.2.1, e22]
  · rw [k.2.2.1.1.2.2.2.2.2.1, h.2.2.1.1.2.2.2.2.2.1, e22]
  · rw [k.2.2.2.1.1.1, h.2.2.2.1.1.1, tkC_t]
  · rw [k.2.2.2.1.1.2.2.2.2.2.2, h.2.2.2.1.1.2.2.2.2.2.2, e2]
theorem ST.gn {c : Mem} {N : Int → Int} {K : Nat} (h : ST c 0 0 N K) : GN N := ⟨c, 0, 0, h.1, h.2.1, h.2.2.1, h.2.2.2.1⟩
theorem UC.tk {c : Mem} {N : Int → Int} {K : Nat} (hU : UC N) (h : ST c 0 0 N K) (ht : c 0 0 0 < 9999) : UC (tkN N) := by
  have k := h.tkhd ht
  have a5 := h.1.2.2.2.2.2.1
  have d5 := h.2.2.1.1.2.2.2.2.2.1
  exact hU.cg k.1 k.2.1 (by omega) (fun j a b d => h.gn.tkc ⟨a, b, d⟩)
