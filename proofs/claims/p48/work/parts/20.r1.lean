/-! the model's row of numbers, and how it stands to the class's memory -/
def upN (N : Int → Int) (j z : Int) : Int → Int := fun i => if i = j then z else N i
theorem upN_at (N : Int → Int) (j z : Int) : upN N j z j = z := by unfold upN; rw [if_pos rfl]
theorem upN_off {N : Int → Int} {j z i : Int} (h : i ≠ j) : upN N j z i = N i := by unfold upN; rw [if_neg h]
theorem upN_ap (N : Int → Int) (j z i : Int) : upN N j z i = if i = j then z else N i := rfl
def roomN (N : Int → Int) (q : Int) : Int := max (N (30 + 7 * q + 0) - N (30 + 7 * q + 0) / 2) (N (30 + 7 * q + 0) - N (30 + 7 * q + 2) / N 0)
def quartN (N : Int → Int) (q : Int) : Int := min 3 (4 * N (30 + 7 * q + 1) / roomN N q)
def weightN (N : Int → Int) (q : Int) : Int := if N (30 + 7 * q + 3) = -1 then 1 else N (14 + 4 * N (30 + 7 * q + 3) + quartN N q)
def spillA (N : Int → Int) (q : Int) : Int := max 0 (N (30 + 7 * q + 1) - roomN N q)
def spill1 (N : Int → Int) (q : Int) : Int → Int := upN N (30 + 7 * q + 1) (N (30 + 7 * q + 1) + -spillA N q)
def spillN (N : Int → Int) (q : Int) : Int → Int := upN (spill1 N q) 13 (spill1 N q 13 + spillA N q)
def getN (N : Int → Int) (q x : Int) : Int → Int := spillN (upN N (30 + 7 * q + 1) (N (30 + 7 * q + 1) + x)) q
def give1 (N : Int → Int) (q x : Int) : Int → Int := upN N (30 + 7 * q + 2) (min 1000000000 (N (30 + 7 * q + 2) + x * weightN N q))
def giveN (N : Int → Int) (q x : Int) : Int → Int := spillN (upN (give1 N q x) (30 + 7 * q + 1) (give1 N q x (30 + 7 * q + 1) + -x)) q
def intN (N : Int → Int) (x : Int) : Int := (x + N 1 - 1) / N 1
def owedN (N : Int → Int) (l : Int) : Int := if N (318 + 7 * l + 5) ≤ 2 then max 0 (N (318 + 7 * l + 2) + intN N (N (318 + 7 * l + 3)) - N (318 + 7 * l + 4)) else 0
theorem roomN_congr {N N' : Int → Int} {q : Int} (h0 : N' (30 + 7 * q + 0) = N (30 + 7 * q + 0)) (h2 : N' (30 + 7 * q + 2) = N (30 + 7 * q + 2)) (hf : N' 0 = N 0) : roomN N' q = roomN N q := by unfold roomN; rw [h0, h2, hf]
theorem spillN_ap {N : Int → Int} {q : Int} (hq : 0 ≤ q) (j : Int) : spillN N q j = if j = 30 + 7 * q + 1 then min (N (30 + 7 * q + 1)) (roomN N q) else if j = 13 then N 13 + max 0 (N (30 + 7 * q + 1) - roomN N q) else N j := by
  unfold spillN
  rw [upN_ap]
  unfold spill1
  by_cases h1 : j = 13
  · rw [if_pos h1, if_neg (by omega), if_pos h1, upN_off (by omega)]; rfl
  · rw [if_neg h1, upN_ap]
    by_cases h2 : j = 30 + 7 * q + 1
    · rw [if_pos h2, if_pos h2]; unfold spillA; omega
    · rw [if_neg h2, if_neg h2, if_neg h1]
theorem getN_ap {N : Int → Int} {q x : Int} (hq : 0 ≤ q) (j : Int) : getN N q x j = if j = 30 + 7 * q + 1 then min (N (30 + 7 * q + 1) + x) (roomN N q) else if j = 13 then N 13 + max 0 (N (30 + 7 * q + 1) + x - roomN N q) else N j := by
  unfold getN
  rw [spillN_ap hq, upN_at, roomN_congr (N := N) (upN_off (by omega)) (upN_off (by omega)) (upN_off (by omega)), upN_off (show (13 : Int) ≠ _ by omega)]
  by_cases h1 : j = 30 + 7 * q + 1
  · rw [if_pos h1, if_pos h1]
  · rw [if_neg h1, if_neg h1, upN_off h1]
theorem giveN_ap {N : Int → Int} {q x : Int} (hq : 0 ≤ q) (j : Int) : giveN N q x j = if j = 30 + 7 * q + 2 then min 1000000000 (N (30 + 7 * q + 2) + x * weightN N q)
    else if j = 30 + 7 * q + 1 then min (N (30 + 7 * q + 1) - x) (roomN (give1 N q x) q) else if j = 13 then N 13 + max 0 (N (30 + 7 * q + 1) - x - roomN (give1 N q x) q) else N j := by
  unfold giveN
  rw [spillN_ap hq, upN_at, roomN_congr (N := give1 N q x) (upN_off (by omega)) (upN_off (by omega)) (upN_off (by omega)), upN_off (show (13 : Int) ≠ _ by omega)]
  have e1 : give1 N q x (30 + 7 * q + 1) = N (30 + 7 * q + 1) := by unfold give1; rw [upN_off (by omega)]
  have e13 : give1 N q x 13 = N 13 := by unfold give1; rw [upN_off (by omega)]
  rw [e1, e13]
  by_cases h2 : j = 30 + 7 * q + 2
  · rw [if_pos h2, if_neg (by omega), if_neg (by omega), upN_off (by omega), h2]
    unfold give1; rw [upN_at]
  · rw [if_neg h2]
    by_cases h1 : j = 30 + 7 * q + 1
    · rw [if_pos h1, if_pos h1]; omega
    · rw [if_neg h1, if_neg h1, upN_off h1]
      by_cases h3 : j = 13
      · rw [if_pos h3, if_pos h3]; omega
      · rw [if_neg h3, if_neg h3]; unfold give1; rw [upN_off h2]
def gainT (N : Int → Int) (q h : Int) (s : Int) : Int := if N (158 + 4 * s) = q ∧ N (158 + 4 * s + 1) ≤ h ∧ h ≤ N (158 + 4 * s + 2) then N (158 + 4 * s + 3) else 0
def gainN (N : Int → Int) (q h : Int) : Int := sm (gainT N q h) (N 6).toNat
def betF (N : Int → Int) (a b : Int) (c : Int) : Nat → Int
  | 0 => -1
  | n + 1 => if (N (86 + 6 * c + 0) = a ∧ N (86 + 6 * c + 1) = b) ∨ (N (86 + 6 * c + 0) = b ∧ N (86 + 6 * c + 1) = a) then c else betF N a b (c + 1) n
def betN (N : Int → Int) (a b : Int) : Int := betF N a b 0 (N 5).toNat
/-- the places of the row that a description fixes -/
def plI (j : Int) : Prop := (0 ≤ j ∧ j < 2) ∨ (3 ≤ j ∧ j < 7) ∨ j = 8 ∨ (14 ≤ j ∧ j < 30) ∨ (30 ≤ j ∧ j < 86 ∧ ((j - 30) % 7 = 0 ∨ (j - 30) % 7 = 3)) ∨ (86 ≤ j ∧ j < 158 ∧ ((j - 86) % 6 = 0 ∨ (j - 86) % 6 = 1)) ∨ (158 ≤ j ∧ j < 206) ∨ (270 ≤ j ∧ j < 318 ∧ (j - 270) % 6 ≠ 5)
/-- the row's own bounds: suns and cables -/
def SU (N : Int → Int) : Prop := (0 ≤ N 6 ∧ N 6 ≤ 12) ∧ (0 ≤ N 5 ∧ N 5 ≤ 12) ∧ (∀ s, 0 ≤ s → s < N 6 → (0 ≤ N (158 + 4 * s) ∧ N (158 + 4 * s) < 8) ∧ (0 ≤ N (158 + 4 * s + 1) ∧ N (158 + 4 * s + 1) < 24) ∧ (0 ≤ N (158 + 4 * s + 2) ∧ N (158 + 4 * s + 2) < 24) ∧ (0 ≤ N (158 + 4 * s + 3) ∧ N (158 + 4 * s + 3) ≤ 10000)) ∧ (∀ c, 0 ≤ c → c < N 5 → (0 ≤ N (86 + 6 * c + 0) ∧ N (86 + 6 * c + 0) < 8) ∧ (0 ≤ N (86 + 6 * c + 1) ∧ N (86 + 6 * c + 1) < 8))
theorem SU.congr {N N' : Int → Int} (h : SU N) (eN : ∀ j, plI j → N' j = N j) : SU N' := by
  have e5 := eN 5 (by unfold plI; omega)
  have e6 := eN 6 (by unfold plI; omega)
  obtain ⟨h1, h2, h3, h4⟩ := h
  unfold SU
  rw [e5, e6]
  refine ⟨h1, h2, fun s a b => ?_, fun c a b => ?_⟩
  · rw [eN _ (by unfold plI; omega), eN _ (by unfold plI; omega), eN _ (by unfold plI; omega), eN _ (by unfold plI; omega)]; exact h3 s a b
  · rw [eN _ (by unfold plI; omega), eN _ (by unfold plI; omega)]; exact h4 c a b
def RP (m : Mem) (p : Nat) (N : Int → Int) : Prop := (N 0 = m 22 p 0 ∧ N 1 = m 22 p 1 ∧ N 3 = m 22 p 2 ∧ N 4 = m 22 p 3 ∧ N 6 = m 22 p 4 ∧ N 5 = m 22 p 5 ∧ N 8 = m 22 p 6) ∧
  (∀ q, 0 ≤ q → q < m 22 p 2 → N (30 + 7 * q + 0) = m 23 p q ∧ N (30 + 7 * q + 3) = m 24 p q) ∧
  (∀ f, 0 ≤ f → f < 4 * m 22 p 3 → N (14 + f) = m 25 p f) ∧
  (∀ q h, 0 ≤ q → q < m 22 p 2 → 0 ≤ h → h < 24 → gainN N q h = m 26 p (q * 24 + h)) ∧
  (∀ a b, 0 ≤ a → a < m 22 p 2 → 0 ≤ b → b < m 22 p 2 → betN N a b = m 27 p (a * 8 + b)) ∧
  (∀ c, 0 ≤ c → c < m 22 p 6 → N (270 + 6 * c + 0) = m 28 p c ∧ N (270 + 6 * c + 1) = m 29 p c ∧ N (270 + 6 * c + 2) = m 30 p c ∧ N (270 + 6 * c + 3) = m 31 p c ∧ N (270 + 6 * c + 4) = m 32 p c) ∧ SU N
theorem betF_congr {N N' : Int → Int} (a b : Int) : ∀ (n : Nat) (c : Int), (∀ c' : Int, c ≤ c' → c' < c + n → N' (86 + 6 * c' + 0) = N (86 + 6 * c' + 0) ∧ N' (86 + 6 * c' + 1) = N (86 + 6 * c' + 1)) → betF N' a b c n = betF N a b c n := by
  intro n
  induction n with
  | zero => intro c _; rfl
  | succ n ih =>
    intro c hc
    have h := hc c (by omega) (by omega)
    unfold betF
    rw [h.1, h.2, ih (c + 1) (fun c' h1 h2 => hc c' (by omega) (by omega))]
theorem RP.congr {m m' : Mem} {p : Nat} {N N' : Int → Int} (hP : BP m p) (h : RP m p N) (em : ∀ k, 22 ≤ k → k < 33 → m' k p = m k p) (eN : ∀ j, plI j → N' j = N j) : RP m' p N' := by
  obtain ⟨h1, h2, h3, h4, h5, h6, h7⟩ := h
  have n8 := hP.2.2.1
  have n4 := hP.2.2.2.1
  have n12 := hP.2.2.2.2.1
  have n12' := hP.2.2.2.2.2.1
  have nc := hP.2.2.2.2.2.2.1
  have e0 := eN 0 (by unfold plI; omega)
  have e1 := eN 1 (by unfold plI; omega)
  have e3 := eN 3 (by unfold plI; omega)
  have e4 := eN 4 (by unfold plI; omega)
  have e5 := eN 5 (by unfold plI; omega)
  have e6 := eN 6 (by unfold plI; omega)
  have e8 := eN 8 (by unfold plI; omega)
  unfold RP
  rw [em 22 (by decide) (by decide), em 23 (by decide) (by decide), em 24 (by decide) (by decide), em 25 (by decide) (by decide), em 26 (by decide) (by decide), em 27 (by decide) (by decide), em 28 (by decide) (by decide), em 29 (by decide) (by decide), em 30 (by decide) (by decide), em 31 (by decide) (by decide), em 32 (by decide) (by decide)]
  refine ⟨⟨by omega, by omega, by omega, by omega, by omega, by omega, by omega⟩, fun q a b => ?_, fun f a b => ?_, fun q hh a b c d => ?_, fun x y a b c d => ?_, fun c a b => ?_, h7.congr eN⟩
  · rw [eN _ (by unfold plI; omega), eN _ (by unfold plI; omega)]; exact h2 q a b
  · rw [eN _ (by unfold plI; omega)]; exact h3 f a b
  · rw [← h4 q hh a b c d]
    unfold gainN
    rw [e6]
    refine sm_congr (fun s s0 s1 => ?_)
    unfold gainT
    rw [eN _ (by unfold plI; omega), eN _ (by unfold plI; omega), eN _ (by unfold plI; omega), eN _ (by unfold plI; omega)]
  · rw [← h5 x y a b c d]
    unfold betN
    rw [e5]
    exact betF_congr x y _ 0 (fun c' c0 c1 => ⟨eN _ (by unfold plI; omega), eN _ (by unfold plI; omega)⟩)
  · rw [eN _ (by unfold plI; omega), eN _ (by unfold plI; omega), eN _ (by unfold plI; omega), eN _ (by unfold plI; omega), eN _ (by unfold plI; omega)]; exact h6 c a b
/-- the state's numbers; those that were sent now stand apart -/
def R1 (m : Mem) (p s : Nat) (N : Int → Int) : Prop := N 2 = m 0 s 0 ∧ N 10 = m 0 s 1 ∧ N 11 = m 0 s 2 ∧ N 12 = sm (m 9 s) (m 22 p 5).toNat ∧ N 13 = m 0 s 3 ∧ N 7 = m 1 s 0 ∧ N 9 = m 2 s 0
def R2 (m : Mem) (p s : Nat) (N : Int → Int) : Prop := ∀ q, 0 ≤ q → q < m 22 p 2 → N (30 + 7 * q + 1) = m 3 s q ∧ N (30 + 7 * q + 2) = m 4 s q ∧ N (30 + 7 * q + 4) = m 5 s q
def R3 (m : Mem) (p s : Nat) (N : Int → Int) : Prop := ∀ q, 0 ≤ q → q < m 22 p 2 → N (30 + 7 * q + 5) = sm (numC m s q 1) (m 1 s 0).toNat ∧ N (30 + 7 * q + 6) = sm (numC m s q 2) (m 1 s 0).toNat
def R4 (m : Mem) (p s : Nat) (N : Int → Int) : Prop := ∀ c, 0 ≤ c → c < m 22 p 5 → N (86 + 6 * c + 2) = m 6 s c ∧ N (86 + 6 * c + 3) = m 7 s c ∧ N (86 + 6 * c + 5) = m 9 s c
def R5 (m : Mem) (s : Nat) (N : Int → Int) : Prop := ∀ t, 0 ≤ t → t < m 1 s 0 → N (206 + 4 * t + 0) = m 11 s t ∧ N (206 + 4 * t + 1) = m 12 s t ∧ N (206 + 4 * t + 2) = m 13 s t ∧ N (206 + 4 * t + 3) = m 14 s t
def R6 (m : Mem) (p s : Nat) (N : Int → Int) : Prop := ∀ c, 0 ≤ c → c < m 22 p 6 → N (270 + 6 * c + 5) = m 10 s c
def R7 (m : Mem) (s : Nat) (N : Int → Int) : Prop := ∀ l, 0 ≤ l → l < m 2 s 0 → N (318 + 7 * l + 0) = m 15 s l ∧ N (318 + 7 * l + 1) = m 16 s l ∧ N (318 + 7 * l + 2) = m 17 s l ∧ N (318 + 7 * l + 3) = m 18 s l ∧ N (318 + 7 * l + 4) = m 19 s l ∧ N (318 + 7 * l + 5) = m 20 s l ∧ N (318 + 7 * l + 6) = m 21 s l
def R8 (m : Mem) (p s : Nat) (N : Int → Int) : Prop := ∀ c, 0 ≤ c → c < m 22 p 5 → N (86 + 6 * c + 4) = m 8 s c
def RS (m : Mem) (p s : Nat) (N : Int → Int) : Prop := R1 m p s N ∧ R2 m p s N ∧ R3 m p s N ∧ R4 m p s N ∧ R5 m s N ∧ R6 m p s N ∧ R7 m s N
theorem R_room {m : Mem} {p s : Nat} {N : Int → Int} (hR : RP m p N) (hS : RS m p s N) {q : Int} (h0 : 0 ≤ q) (h1 : q < m 22 p 2) : roomN N q = roomC m p s q := by
  have a := hR.2.1 q h0 h1
  have b := hS.2.1 q h0 h1
  have f := hR.1.1
  unfold roomN roomC
  rw [a.1, b.2.1, f]
  omega
theorem R_quart {m : Mem} {p s : Nat} {N : Int → Int} (hR : RP m p N) (hS : RS m p s N) {q : Int} (h0 : 0 ≤ q) (h1 : q < m 22 p 2) : quartN N q = quartC m p s q := by
  have b := hS.2.1 q h0 h1
  unfold quartN quartC
  rw [R_room hR hS h0 h1, b.1]
theorem R_weight {m : Mem} {p s : Nat} {N : Int → Int} (hP : BP m p) (hB : BS m p s) (hR : RP m p N) (hS : RS m p s N) {q : Int} (h0 : 0 ≤ q) (h1 : q < m 22 p 2) : weightN N q = factC m p q (quartC m p s q) := by
  have a := hR.2.1 q h0 h1
  have c := (hP.2.2.2.2.2.2.2.1 q h0 h1).2
  have qb := quartC_b (BS_pf hP hB h0 h1)
  unfold weightN factC
  rw [a.2, R_quart hR hS h0 h1]
  split
  · rfl
  · have e := hR.2.2.1 (m 24 p q * 4 + quartC m p s q) (by omega) (by omega)
    rw [← e]
    congr 1
    omega
theorem R_wear {m : Mem} {p s : Nat} {N : Int → Int} (hP : BP m p) (hB : BS m p s) (hR : RP m p N) (hS : RS m p s N) {q : Int} (x : Int) (h0 : 0 ≤ q) (h1 : q < m 22 p 2) : x * weightN N q = wearC m p s q x := by
  rw [R_weight hP hB hR hS h0 h1]; rfl
theorem R_int {m : Mem} {p : Nat} {N : Int → Int} (hR : RP m p N) (x : Int) : intN N x = intC m p x := by unfold intN intC; rw [hR.1.2.1]
theorem R_owed {m : Mem} {p s : Nat} {N : Int → Int} (hR : RP m p N) (hS : RS m p s N) {l : Int} (h0 : 0 ≤ l) (h1 : l < m 2 s 0) : owedN N l = owedC m p s l := by
  have a := hS.2.2.2.2.2.2 l h0 h1
  unfold owedN owedC
  rw [R_int hR, a.2.2.1, a.2.2.2.1, a.2.2.2.2.1, a.2.2.2.2.2.1]
/-- getting, side by side -/
theorem R_get {m : Mem} {p s : Nat} {N : Int → Int} {q x : Int} (hP : BP m p) (hB : BS m p s) (hR : RP m p N) (hS : RS m p s N) (h0 : 0 ≤ q) (h1 : q < m 22 p 2) : RP (getC m p s q x) p (getN N q x) ∧ RS (getC m p s q x) p s (getN N q x) := by
  have hk : ∀ k, k ≠ 3 → k ≠ 0 → getC m p s q x k = m k := fun k a b => getC_k a b
  have n8 := hP.2.2.1
  have hr := R_room hR hS h0 h1
  have hq := hS.2.1 q h0 h1
  have hN := fun j => getN_ap (N := N) (x := x) h0 j
  have ho : ∀ j, j ≠ 30 + 7 * q + 1 → j ≠ 13 → getN N q x j = N j := fun j a b => by rw [hN, if_neg a, if_neg b]
  refine ⟨hR.congr hP (fun k a b => by rw [hk k (by omega) (by omega)]) (fun j hj => ho j (by unfold plI at hj; omega) (by unfold plI at hj; omega)), ?_⟩
  obtain ⟨r1, r2, r3, r4, r5, r6, r7⟩ := hS
  refine ⟨?_, fun q' a b => ?_, fun q' a b => ?_, fun c a b => ?_, fun t a b => ?_, fun c a b => ?_, fun l a b => ?_⟩
  · obtain ⟨a1, a2, a3, a4, a5, a6, a7⟩ := r1
    unfold R1
    rw [ho 2 (by omega) (by omega), ho 10 (by omega) (by omega), ho 11 (by omega) (by omega), ho 12 (by omega) (by omega), ho 7 (by omega) (by omega), ho 9 (by omega) (by omega), hk 9 (by decide) (by decide), hk 22 (by decide) (by decide), hk 1 (by decide) (by decide), hk 2 (by decide) (by decide),
      getC_0, getC_0, getC_0, getC_0, if_neg (by decide), if_neg (by decide), if_neg (by decide), if_pos rfl, hN 13, if_neg (by omega), if_pos rfl, hr, hq.1]
    exact ⟨a1, a2, a3, a4, by omega, a6, a7⟩
  · rw [hk 22 (by decide) (by decide)] at b
    have c := r2 q' a b
    rw [hk 4 (by decide) (by decide), hk 5 (by decide) (by decide), getC_3, ho (30 + 7 * q' + 2) (by omega) (by omega), ho (30 + 7 * q' + 4) (by omega) (by omega), hN]
    by_cases e : q' = q
    · subst e
      rw [if_pos rfl, if_pos rfl, hr, hq.1]; exact ⟨rfl, c.2⟩
    · rw [if_neg (by omega), if_neg (by omega), if_neg e]; exact c
  · rw [hk 22 (by decide) (by decide)] at b
    have c := r3 q' a b
    rw [ho (30 + 7 * q' + 5) (by omega) (by omega), ho (30 + 7 * q' + 6) (by omega) (by omega), hk 1 (by decide) (by decide)]
    have en : ∀ z, numC (getC m p s q x) s q' z = numC m s q' z := fun z => by
      funext t; unfold numC; rw [hk 11 (by decide) (by decide), hk 14 (by decide) (by decide)]
    rw [en, en]; exact c
  · rw [hk 22 (by decide) (by decide)] at b
    have n12 := hP.2.2.2.2.2.1
    rw [ho _ (by omega) (by omega), ho _ (by omega) (by omega), ho _ (by omega) (by omega), hk 6 (by decide) (by decide), hk 7 (by decide) (by decide), hk 9 (by decide) (by decide)]
    exact r4 c a b
  · rw [hk 1 (by decide) (by decide)] at b
    rw [ho _ (by omega) (by omega), ho _ (by omega) (by omega), ho _ (by omega) (by omega), ho _ (by omega) (by omega), hk 11 (by decide) (by decide), hk 12 (by decide) (by decide), hk 13 (by decide) (by decide), hk 14 (by decide) (by decide)]
    exact r5 t a b
  · rw [hk 22 (by decide) (by decide)] at b
    rw [ho _ (by omega) (by omega), hk 10 (by decide) (by decide)]
    exact r6 c a b
  · rw [hk 2 (by decide) (by decide)] at b
    rw [ho _ (by omega) (by omega), ho _ (by omega) (by omega), ho _ (by omega) (by omega), ho _ (by omega) (by omega), ho _ (by omega) (by omega), ho _ (by omega) (by omega), ho _ (by omega) (by omega), hk 15 (by decide) (by decide), hk 16 (by decide) (by decide), hk 17 (by decide) (by decide), hk 18 (by decide) (by decide), hk 19 (by decide) (by decide), hk 20 (by decide) (by decide), hk 21 (by decide) (by decide)]
    exact r7 l a b
/-- giving, side by side -/
theorem R_give {m : Mem} {p s : Nat} {N : Int → Int} {q x : Int} (hP : BP m p) (hB : BS m p s) (hR : RP m p N) (hS : RS m p s N) (h0 : 0 ≤ q) (h1 : q < m 22 p 2) : RP (giveC m p s q x) p (giveN N q x) ∧ RS (giveC m p s q x) p s (giveN N q x) := by
  have hk : ∀ k, k ≠ 3 → k ≠ 0 → k ≠ 4 → giveC m p s q x k = m k := fun k a b c => giveC_k a b c
  have n8 := hP.2.2.1
  have hw := R_wear hP hB hR hS x h0 h1
  have hq := hS.2.1 q h0 h1
  have hq0 := hR.2.1 q h0 h1
  have hr : roomN (give1 N q x) q = rmF (m 23 p q) (ptC m p s q x) (m 22 p 0) := by
    unfold roomN give1 rmF ptC
    rw [upN_at, upN_off (by omega), upN_off (by omega), hw, hq.2.1, hq0.1, hR.1.1]
    omega
  have hN := fun j => giveN_ap (N := N) (x := x) h0 j
  have ho : ∀ j, j ≠ 30 + 7 * q + 1 → j ≠ 30 + 7 * q + 2 → j ≠ 13 → giveN N q x j = N j := fun j a b c => by rw [hN, if_neg b, if_neg a, if_neg c]
  refine ⟨hR.congr hP (fun k a b => by rw [hk k (by omega) (by omega) (by omega)]) (fun j hj => ho j (by unfold plI at hj; omega) (by unfold plI at hj; omega) (by unfold plI at hj; omega)), ?_⟩
  obtain ⟨r1, r2, r3, r4, r5, r6, r7⟩ := hS
  refine ⟨?_, fun q' a b => ?_, fun q' a b => ?_, fun c a b => ?_, fun t a b => ?_, fun c a b => ?_, fun l a b => ?_⟩
  · obtain ⟨a1, a2, a3, a4, a5, a6, a7⟩ := r1
    unfold R1
    rw [ho 2 (by omega) (by omega) (by omega), ho 10 (by omega) (by omega) (by omega), ho 11 (by omega) (by omega) (by omega), ho 12 (by omega) (by omega) (by omega), ho 7 (by omega) (by omega) (by omega), ho 9 (by omega) (by omega) (by omega), hk 9 (by decide) (by decide) (by decide), hk 22 (by decide) (by decide) (by decide), hk 1 (by decide) (by decide) (by decide), hk 2 (by decide) (by decide) (by decide),
      giveC_0, giveC_0, giveC_0, giveC_0, if_neg (by decide), if_neg (by decide), if_neg (by decide), if_pos rfl, hN 13, if_neg (by omega), if_neg (by omega), if_pos rfl, hr, hq.1]
    exact ⟨a1, a2, a3, a4, by omega, a6, a7⟩
  · rw [hk 22 (by decide) (by decide) (by decide)] at b
    have c := r2 q' a b
    rw [hk 5 (by decide) (by decide) (by decide), giveC_3, giveC_4, ho (30 + 7 * q' + 4) (by omega) (by omega) (by omega)]
    by_cases e : q' = q
    · subst e
      rw [hN, hN, if_neg (by omega), if_pos rfl, if_pos rfl, if_pos rfl, if_pos rfl, hr, hq.1, hq.2.1, hw]; exact ⟨rfl, rfl, c.2.2⟩
    · rw [ho (30 + 7 * q' + 1) (by omega) (by omega) (by omega), ho (30 + 7 * q' + 2) (by omega) (by omega) (by omega), if_neg e, if_neg e]; exact c
  · rw [hk 22 (by decide) (by decide) (by decide)] at b
    have c := r3 q' a b
    rw [ho (30 + 7 * q' + 5) (by omega) (by omega) (by omega), ho (30 + 7 * q' + 6) (by omega) (by omega) (by omega), hk 1 (by decide) (by decide) (by decide)]
    have en : ∀ z, numC (giveC m p s q x) s q' z = numC m s q' z := fun z => by
      funext t; unfold numC; rw [hk 11 (by decide) (by decide) (by decide), hk 14 (by decide) (by decide) (by decide)]
    rw [en, en]; exact c
  · rw [hk 22 (by decide) (by decide) (by decide)] at b
    have n12 := hP.2.2.2.2.2.1
    rw [ho _ (by omega) (by omega) (by omega), ho _ (by omega) (by omega) (by omega), ho _ (by omega) (by omega) (by omega), hk 6 (by decide) (by decide) (by decide), hk 7 (by decide) (by decide) (by decide), hk 9 (by decide) (by decide) (by decide)]
    exact r4 c a b
  · rw [hk 1 (by decide) (by decide) (by decide)] at b
    rw [ho _ (by omega) (by omega) (by omega), ho _ (by omega) (by omega) (by omega), ho _ (by omega) (by omega) (by omega), ho _ (by omega) (by omega) (by omega), hk 11 (by decide) (by decide) (by decide), hk 12 (by decide) (by decide) (by decide), hk 13 (by decide) (by decide) (by decide), hk 14 (by decide) (by decide) (by decide)]
    exact r5 t a b
  · rw [hk 22 (by decide) (by decide) (by decide)] at b
    rw [ho _ (by omega) (by omega) (by omega), hk 10 (by decide) (by decide) (by decide)]
    exact r6 c a b
  · rw [hk 2 (by decide) (by decide) (by decide)] at b
    rw [ho _ (by omega) (by omega) (by omega), ho _ (by omega) (by omega) (by omega), ho _ (by omega) (by omega) (by omega), ho _ (by omega) (by omega) (by omega), ho _ (by omega) (by omega) (by omega), ho _ (by omega) (by omega) (by omega), ho _ (by omega) (by omega) (by omega), hk 15 (by decide) (by decide) (by decide), hk 16 (by decide) (by decide) (by decide), hk 17 (by decide) (by decide) (by decide), hk 18 (by decide) (by decide) (by decide), hk 19 (by decide) (by decide) (by decide), hk 20 (by decide) (by decide) (by decide), hk 21 (by decide) (by decide) (by decide)]
    exact r7 l a b
