/-! a draft and its row (from whole) -/
theorem gain_congr {N N' : Int → Int} {q h : Int} (e6 : N' 6 = N 6) (e : ∀ s, 0 ≤ s → s < N 6 → ∀ i, 0 ≤ i → i < 4 → N' (158 + 4 * s + i) = N (158 + 4 * s + i)) : gainN N' q h = gainN N q h := by
  unfold gainN
  rw [e6]
  refine sm_congr (fun s a b => ?_)
  unfold gainT
  have e0 := e s a (by omega) 0 (by decide) (by decide)
  have e1 := e s a (by omega) 1 (by decide) (by decide)
  have e2 := e s a (by omega) 2 (by decide) (by decide)
  have e3 := e s a (by omega) 3 (by decide) (by decide)
  rw [Int.add_zero] at e0
  rw [e0, e1, e2, e3]
theorem gain_none {N : Int → Int} {q h : Int} (e : ∀ s, 0 ≤ s → s < N 6 → N (158 + 4 * s) ≠ q) : gainN N q h = 0 := by
  unfold gainN
  refine sm_zero (fun s a b => ?_)
  unfold gainT
  exact if_neg (fun z => e s a (by omega) z.1)
theorem gain_b {N : Int → Int} {q h : Int} (hU : SU N) : 0 ≤ gainN N q h ∧ gainN N q h ≤ 10000 * N 6 := by
  unfold gainN
  have u := hU.1
  have := sm_b (f := gainT N q h) (n := (N 6).toNat) (a := 0) (b := 10000) (fun s a b => by
    have k := (hU.2.2.1 s a (by omega)).2.2.2
    unfold gainT
    split <;> omega)
  omega
theorem bet_congr {N N' : Int → Int} {a b : Int} (e5 : N' 5 = N 5) (e : ∀ c, 0 ≤ c → c < N 5 → N' (86 + 6 * c + 0) = N (86 + 6 * c + 0) ∧ N' (86 + 6 * c + 1) = N (86 + 6 * c + 1)) : betN N' a b = betN N a b := by
  unfold betN
  rw [e5]
  exact betF_congr a b _ 0 (fun c x y => e c x (by omega))
theorem betF_none {N : Int → Int} {a b : Int} : ∀ (n : Nat) (c : Int), (∀ c' : Int, c ≤ c' → c' < c + n → ¬ ((N (86 + 6 * c' + 0) = a ∧ N (86 + 6 * c' + 1) = b) ∨ (N (86 + 6 * c' + 0) = b ∧ N (86 + 6 * c' + 1) = a))) → betF N a b c n = -1 := by
  intro n
  induction n with
  | zero => intro c _; rfl
  | succ n ih =>
    intro c h
    unfold betF
    rw [if_neg (h c (by omega) (by omega)), ih (c + 1) (fun c' x y => h c' (by omega) (by omega))]
theorem bet_none {N : Int → Int} {a b : Int} (h : ∀ c, 0 ≤ c → c < N 5 → ¬ ((N (86 + 6 * c + 0) = a ∧ N (86 + 6 * c + 1) = b) ∨ (N (86 + 6 * c + 0) = b ∧ N (86 + 6 * c + 1) = a))) : betN N a b = -1 :=
  betF_none _ 0 (fun c x y => h c x (by omega))
/-- one cable more -/
theorem betF_more {N N' : Int → Int} {a b : Int} : ∀ (n : Nat) (c : Int), (∀ c' : Int, c ≤ c' → c' < c + n → N' (86 + 6 * c' + 0) = N (86 + 6 * c' + 0) ∧ N' (86 + 6 * c' + 1) = N (86 + 6 * c' + 1)) → 0 ≤ c →
    betF N' a b c (n + 1) = if betF N a b c n ≠ -1 then betF N a b c n else if (N' (86 + 6 * (c + n) + 0) = a ∧ N' (86 + 6 * (c + n) + 1) = b) ∨ (N' (86 + 6 * (c + n) + 0) = b ∧ N' (86 + 6 * (c + n) + 1) = a) then c + n else -1 := by
  intro n
  induction n with
  | zero =>
    intro c _ _
    have e : betF N a b c 0 = -1 := rfl
    rw [e, if_neg (fun z => z rfl)]
    show (if _ then _ else betF N' a b (c + 1) 0) = _
    have e2 : betF N' a b (c + 1) 0 = -1 := rfl
    have e3 : c + ((0 : Nat) : Int) = c := by omega
    rw [e2, e3]
  | succ n ih =>
    intro c h h0
    have hc := h c (by omega) (by omega)
    have i := ih (c + 1) (fun c' x y => h c' (by omega) (by omega)) (by omega)
    have e : c + 1 + (n : Int) = c + ((n + 1 : Nat) : Int) := by omega
    rw [e] at i
    show (if (N' (86 + 6 * c + 0) = a ∧ N' (86 + 6 * c + 1) = b) ∨ (N' (86 + 6 * c + 0) = b ∧ N' (86 + 6 * c + 1) = a) then c else betF N' a b (c + 1) (n + 1)) = (if (if (N (86 + 6 * c + 0) = a ∧ N (86 + 6 * c + 1) = b) ∨ (N (86 + 6 * c + 0) = b ∧ N (86 + 6 * c + 1) = a) then c else betF N a b (c + 1) n) ≠ -1 then (if (N (86 + 6 * c + 0) = a ∧ N (86 + 6 * c + 1) = b) ∨ (N (86 + 6 * c + 0) = b ∧ N (86 + 6 * c + 1) = a) then c else betF N a b (c + 1) n) else _)
    rw [hc.1, hc.2, i]
    by_cases q : (N (86 + 6 * c + 0) = a ∧ N (86 + 6 * c + 1) = b) ∨ (N (86 + 6 * c + 0) = b ∧ N (86 + 6 * c + 1) = a)
    · rw [if_pos q, if_pos q, if_pos (by omega)]
    · rw [if_neg q, if_neg q]
theorem bet_more {N N' : Int → Int} {a b : Int} (h5 : 0 ≤ N 5) (e5 : N' 5 = N 5 + 1) (h : ∀ c, 0 ≤ c → c < N 5 → N' (86 + 6 * c + 0) = N (86 + 6 * c + 0) ∧ N' (86 + 6 * c + 1) = N (86 + 6 * c + 1)) :
    betN N' a b = if betN N a b ≠ -1 then betN N a b else if (N' (86 + 6 * N 5 + 0) = a ∧ N' (86 + 6 * N 5 + 1) = b) ∨ (N' (86 + 6 * N 5 + 0) = b ∧ N' (86 + 6 * N 5 + 1) = a) then N 5 else -1 := by
  unfold betN
  rw [e5, show (N 5 + 1).toNat = (N 5).toNat + 1 by omega, betF_more (N := N) (N' := N') (N 5).toNat 0 (fun c x y => h c x (by omega)) (by decide)]
  have e : (0 : Int) + ((N 5).toNat : Int) = N 5 := by omega
  rw [e]
def DX (c : Mem) (N : Int → Int) : Prop := (∀ s, 0 ≤ s → s < N 6 → N (158 + 4 * s) < N 3) ∧ (∀ k, 0 ≤ k → k < N 5 → N (86 + 6 * k + 0) < N 3 ∧ N (86 + 6 * k + 1) < N 3) ∧
  (∀ q h, c 22 3 2 ≤ q → q < 8 → 0 ≤ h → h < 24 → c 26 3 (q * 24 + h) = 0) ∧ (∀ a b, 0 ≤ a → a < 8 → 0 ≤ b → b < 8 → (c 22 3 2 ≤ a ∨ c 22 3 2 ≤ b) → c 27 3 (a * 8 + b) = -1) ∧
  ((∀ j, 30 + 7 * N 3 ≤ j → j < 86 → N j = 0) ∧ (∀ j, 86 + 6 * N 5 ≤ j → j < 158 → N j = 0) ∧ (∀ j, 206 + 4 * N 7 ≤ j → j < 270 → N j = 0) ∧ (∀ j, 270 + 6 * N 8 ≤ j → j < 318 → N j = 0)) ∧
  (c 0 4 0 = 0 ∧ c 2 4 0 = 0 ∧ c 0 4 2 = 0 ∧ c 0 4 3 = 0 ∧ c 0 4 1 = sm (c 3 4) (c 22 3 2).toNat) ∧ (∀ k, 0 ≤ k → k < c 22 3 5 → c 9 4 k = 0 ∧ c 8 4 k = 0) ∧ (∀ t, 0 ≤ t → t < c 1 4 0 → c 14 4 t = 0) ∧ (∀ q, 0 ≤ q → q < c 22 3 2 → c 3 4 q ≤ 100000)
def DRN (c : Mem) (N : Int → Int) : Prop := BP c 3 ∧ BS c 3 4 ∧ RP c 3 N ∧ RS c 3 4 N ∧ R8 c 3 4 N ∧ DX c N
theorem DRN.k {c c' : Mem} {N : Int → Int} (h : DRN c N) (e : ∀ k, k < 33 → c' k = c k) : DRN c' N := by
  obtain ⟨h1, h2, h3, h4, h5, h6⟩ := h
  have b := BPS_move (m := c) (m1 := c') (p := 3) (s := 4) (s1 := 4) (fun k a => by rw [e k (by omega)]) (fun k a b => by rw [e k (by omega)]) h1 h2
  refine ⟨b.1, b.2, h3.congr h1 (fun k a b => by rw [e k (by omega)]) (fun _ _ => rfl), ?_, ?_, ?_⟩
  · obtain ⟨r1, r2, r3, r4, r5, r6, r7⟩ := h4
    have en : ∀ q z, numC c' 4 q z = numC c 4 q z := fun q z => by funext t; unfold numC; rw [e 11 (by decide), e 14 (by decide)]
    unfold RS R1 R2 R3 R4 R5 R6 R7
    simp only [en]
    rw [e 0 (by decide), e 1 (by decide), e 2 (by decide), e 3 (by decide), e 4 (by decide), e 5 (by decide), e 6 (by decide), e 7 (by decide), e 9 (by decide), e 10 (by decide), e 11 (by decide), e 12 (by decide), e 13 (by decide), e 14 (by decide), e 15 (by decide), e 16 (by decide), e 17 (by decide), e 18 (by decide), e 19 (by decide), e 20 (by decide), e 21 (by decide), e 22 (by decide)]
    exact ⟨r1, r2, r3, r4, r5, r6, r7⟩
  · unfold R8; rw [e 8 (by decide), e 22 (by decide)]; exact h5
  · unfold DX; rw [e 22 (by decide), e 26 (by decide), e 27 (by decide), e 0 (by decide), e 2 (by decide), e 3 (by decide), e 9 (by decide), e 8 (by decide), e 1 (by decide), e 14 (by decide)]; exact h6
/-- no trip is made or missed yet -/
theorem num_none {c : Mem} {q z n : Int} (hz : z ≠ 0) (h : ∀ t, 0 ≤ t → t < n → c 14 4 t = 0) : sm (numC c 4 q z) n.toNat = 0 := by
  refine sm_zero (fun t a b => ?_)
  unfold numC
  exact if_neg (fun y => hz (by rw [← y.2]; exact h t a (by omega)))
theorem ac_DR_pack_1 {c : Mem} {cap ch cv : Int} : (addP (begP c 4 (c 22 3 2) ch) 3 cap cv) 22 3 0 = c 22 3 0 := by simp [addP, begP, up3_apply]
theorem ac_DR_pack_2 {c : Mem} {cap ch cv : Int} : (addP (begP c 4 (c 22 3 2) ch) 3 cap cv) 22 3 1 = c 22 3 1 := by simp [addP, begP, up3_apply]
theorem ac_DR_pack_3 {c : Mem} {cap ch cv : Int} : (addP (begP c 4 (c 22 3 2) ch) 3 cap cv) 22 3 2 = c 22 3 2 + 1 := by simp [addP, begP, up3_apply]
theorem ac_DR_pack_4 {c : Mem} {cap ch cv : Int} : (addP (begP c 4 (c 22 3 2) ch) 3 cap cv) 22 3 3 = c 22 3 3 := by simp [addP, begP, up3_apply]
theorem ac_DR_pack_5 {c : Mem} {cap ch cv : Int} : (addP (begP c 4 (c 22 3 2) ch) 3 cap cv) 22 3 4 = c 22 3 4 := by simp [addP, begP, up3_apply]
theorem ac_DR_pack_6 {c : Mem} {cap ch cv : Int} : (addP (begP c 4 (c 22 3 2) ch) 3 cap cv) 22 3 5 = c 22 3 5 := by simp [addP, begP, up3_apply]
theorem ac_DR_pack_7 {c : Mem} {cap ch cv : Int} : (addP (begP c 4 (c 22 3 2) ch) 3 cap cv) 22 3 6 = c 22 3 6 := by simp [addP, begP, up3_apply]
theorem ac_DR_pack_8 {c : Mem} {cap ch cv : Int} : (addP (begP c 4 (c 22 3 2) ch) 3 cap cv) 0 4 0 = c 0 4 0 := by simp [addP, begP, up3_apply]
theorem ac_DR_pack_9 {c : Mem} {cap ch cv : Int} : (addP (begP c 4 (c 22 3 2) ch) 3 cap cv) 0 4 1 = c 0 4 1 + ch := by simp [addP, begP, up3_apply]
theorem ac_DR_pack_10 {c : Mem} {cap ch cv : Int} : (addP (begP c 4 (c 22 3 2) ch) 3 cap cv) 0 4 2 = c 0 4 2 := by simp [addP, begP, up3_apply]
theorem ac_DR_pack_11 {c : Mem} {cap ch cv : Int} : (addP (begP c 4 (c 22 3 2) ch) 3 cap cv) 0 4 3 = c 0 4 3 := by simp [addP, begP, up3_apply]
theorem ac_DR_pack_12 {c : Mem} {cap ch cv : Int} : (addP (begP c 4 (c 22 3 2) ch) 3 cap cv) 1 4 0 = c 1 4 0 := by simp [addP, begP, up3_apply]
theorem ac_DR_pack_13 {c : Mem} {cap ch cv : Int} : (addP (begP c 4 (c 22 3 2) ch) 3 cap cv) 2 4 0 = c 2 4 0 := by simp [addP, begP, up3_apply]
theorem ac_DR_pack_14 {c : Mem} {cap ch cv : Int} : (addP (begP c 4 (c 22 3 2) ch) 3 cap cv) 3 4 (c 22 3 2) = ch := by simp [addP, begP, up3_apply]
theorem ac_DR_pack_15 {c : Mem} {cap ch cv : Int} {j : Int} (hj : j ≠ c 22 3 2) : (addP (begP c 4 (c 22 3 2) ch) 3 cap cv) 3 4 j = c 3 4 j := by simp [addP, begP, up3_apply, hj]
theorem ac_DR_pack_16 {c : Mem} {cap ch cv : Int} : (addP (begP c 4 (c 22 3 2) ch) 3 cap cv) 4 4 (c 22 3 2) = 0 := by simp [addP, begP, up3_apply]
theorem ac_DR_pack_17 {c : Mem} {cap ch cv : Int} {j : Int} (hj : j ≠ c 22 3 2) : (addP (begP c 4 (c 22 3 2) ch) 3 cap cv) 4 4 j = c 4 4 j := by simp [addP, begP, up3_apply, hj]
theorem ac_DR_pack_18 {c : Mem} {cap ch cv : Int} : (addP (begP c 4 (c 22 3 2) ch) 3 cap cv) 5 4 (c 22 3 2) = 0 := by simp [addP, begP, up3_apply]
theorem ac_DR_pack_19 {c : Mem} {cap ch cv : Int} {j : Int} (hj : j ≠ c 22 3 2) : (addP (begP c 4 (c 22 3 2) ch) 3 cap cv) 5 4 j = c 5 4 j := by simp [addP, begP, up3_apply, hj]
theorem ac_DR_pack_20 {c : Mem} {cap ch cv : Int} {j : Int} : (addP (begP c 4 (c 22 3 2) ch) 3 cap cv) 6 4 j = c 6 4 j := by simp [addP, begP, up3_apply]
theorem ac_DR_pack_21 {c : Mem} {cap ch cv : Int} {j : Int} : (addP (begP c 4 (c 22 3 2) ch) 3 cap cv) 7 4 j = c 7 4 j := by simp [addP, begP, up3_apply]
theorem ac_DR_pack_22 {c : Mem} {cap ch cv : Int} {j : Int} : (addP (begP c 4 (c 22 3 2) ch) 3 cap cv) 8 4 j = c 8 4 j := by simp [addP, begP, up3_apply]
theorem ac_DR_pack_23 {c : Mem} {cap ch cv : Int} {j : Int} : (addP (begP c 4 (c 22 3 2) ch) 3 cap cv) 9 4 j = c 9 4 j := by simp [addP, begP, up3_apply]
theorem ac_DR_pack_24 {c : Mem} {cap ch cv : Int} {j : Int} : (addP (begP c 4 (c 22 3 2) ch) 3 cap cv) 10 4 j = c 10 4 j := by simp [addP, begP, up3_apply]
theorem ac_DR_pack_25 {c : Mem} {cap ch cv : Int} {j : Int} : (addP (begP c 4 (c 22 3 2) ch) 3 cap cv) 11 4 j = c 11 4 j := by simp [addP, begP, up3_apply]
theorem ac_DR_pack_26 {c : Mem} {cap ch cv : Int} {j : Int} : (addP (begP c 4 (c 22 3 2) ch) 3 cap cv) 12 4 j = c 12 4 j := by simp [addP, begP, up3_apply]
theorem ac_DR_pack_27 {c : Mem} {cap ch cv : Int} {j : Int} : (addP (begP c 4 (c 22 3 2) ch) 3 cap cv) 13 4 j = c 13 4 j := by simp [addP, begP, up3_apply]
theorem ac_DR_pack_28 {c : Mem} {cap ch cv : Int} {j : Int} : (addP (begP c 4 (c 22 3 2) ch) 3 cap cv) 14 4 j = c 14 4 j := by simp [addP, begP, up3_apply]
theorem ac_DR_pack_29 {c : Mem} {cap ch cv : Int} : (addP (begP c 4 (c 22 3 2) ch) 3 cap cv) 23 3 (c 22 3 2) = cap := by simp [addP, begP, up3_apply]
theorem ac_DR_pack_30 {c : Mem} {cap ch cv : Int} {j : Int} (hj : j ≠ c 22 3 2) : (addP (begP c 4 (c 22 3 2) ch) 3 cap cv) 23 3 j = c 23 3 j := by simp [addP, begP, up3_apply, hj]
theorem ac_DR_pack_31 {c : Mem} {cap ch cv : Int} : (addP (begP c 4 (c 22 3 2) ch) 3 cap cv) 24 3 (c 22 3 2) = cv := by simp [addP, begP, up3_apply]
theorem ac_DR_pack_32 {c : Mem} {cap ch cv : Int} {j : Int} (hj : j ≠ c 22 3 2) : (addP (begP c 4 (c 22 3 2) ch) 3 cap cv) 24 3 j = c 24 3 j := by simp [addP, begP, up3_apply, hj]
theorem ac_DR_pack_33 {c : Mem} {cap ch cv : Int} {j : Int} : (addP (begP c 4 (c 22 3 2) ch) 3 cap cv) 25 3 j = c 25 3 j := by simp [addP, begP, up3_apply]
theorem ac_DR_pack_34 {c : Mem} {cap ch cv : Int} {j : Int} : (addP (begP c 4 (c 22 3 2) ch) 3 cap cv) 26 3 j = c 26 3 j := by simp [addP, begP, up3_apply]
theorem ac_DR_pack_35 {c : Mem} {cap ch cv : Int} {j : Int} : (addP (begP c 4 (c 22 3 2) ch) 3 cap cv) 27 3 j = c 27 3 j := by simp [addP, begP, up3_apply]
theorem ac_DR_pack_36 {c : Mem} {cap ch cv : Int} {j : Int} : (addP (begP c 4 (c 22 3 2) ch) 3 cap cv) 28 3 j = c 28 3 j := by simp [addP, begP, up3_apply]
theorem ac_DR_pack_37 {c : Mem} {cap ch cv : Int} {j : Int} : (addP (begP c 4 (c 22 3 2) ch) 3 cap cv) 29 3 j = c 29 3 j := by simp [addP, begP, up3_apply]
theorem ac_DR_pack_38 {c : Mem} {cap ch cv : Int} {j : Int} : (addP (begP c 4 (c 22 3 2) ch) 3 cap cv) 30 3 j = c 30 3 j := by simp [addP, begP, up3_apply]
theorem ac_DR_pack_39 {c : Mem} {cap ch cv : Int} {j : Int} : (addP (begP c 4 (c 22 3 2) ch) 3 cap cv) 31 3 j = c 31 3 j := by simp [addP, begP, up3_apply]
theorem ac_DR_pack_40 {c : Mem} {cap ch cv : Int} {j : Int} : (addP (begP c 4 (c 22 3 2) ch) 3 cap cv) 32 3 j = c 32 3 j := by simp [addP, begP, up3_apply]
set_option maxHeartbeats 4000000 in
theorem DR_pack {c : Mem} {N N' : Int → Int} {cap ch cv : Int} (h : DRN c N) (hn : c 22 3 2 < 8) (h1 : 2 ≤ cap ∧ cap ≤ 100000) (h2 : 0 ≤ ch ∧ ch ≤ cap) (h3 : cv = -1 ∨ 0 ≤ cv ∧ cv < c 22 3 3) (hN : N' (3) = N 3 + 1 ∧ N' (10) = N 10 + ch ∧ N' (30 + 7 * N 3 + 0) = cap ∧ N' (30 + 7 * N 3 + 1) = ch ∧ N' (30 + 7 * N 3 + 3) = cv) (hNo : ∀ j, (j ≠ 3 ∧ j ≠ 10 ∧ j ≠ 30 + 7 * N 3 + 0 ∧ j ≠ 30 + 7 * N 3 + 1 ∧ j ≠ 30 + 7 * N 3 + 3) → N' j = N j) : DRN (addP (begP c 4 (c 22 3 2) ch) 3 cap cv) N' := by
  obtain ⟨hP, hB, hR, hS, h8, hX⟩ := h
  obtain ⟨p1, p2, p3, p4, p5, p6, p7, p8, p9, p10, p11, p12⟩ := hP
  obtain ⟨s1, s2, s3, ⟨s4a, s4⟩, ⟨s5a, s5⟩, s6⟩ := hB
  obtain ⟨⟨r1a, r1b, r1c, r1d, r1e, r1f, r1g⟩, r2, r3, r4, r5, r6, r7⟩ := hR
  obtain ⟨⟨t1a, t1b, t1c, t1d, t1e, t1f, t1g⟩, t2, t3, t4, t5, t6, t7⟩ := hS
  obtain ⟨x1, x2, x3, x4, ⟨x5a, x5b, x5c, x5d⟩, ⟨x6a, x6b, x6c, x6d, x6e⟩, x7, x8, x9⟩ := hX
  obtain ⟨u1, u2, u3, u4⟩ := r7
  obtain ⟨n0, n1, n2, n3, n4⟩ := hN
  generalize hc : addP (begP c 4 (c 22 3 2) ch) 3 cap cv = c'
  have z0 : c' 22 3 0 = c 22 3 0 := by rw [← hc]; exact ac_DR_pack_1
  have z1 : c' 22 3 1 = c 22 3 1 := by rw [← hc]; exact ac_DR_pack_2
  have z2 : c' 22 3 2 = c 22 3 2 + 1 := by rw [← hc]; exact ac_DR_pack_3
  have z3 : c' 22 3 3 = c 22 3 3 := by rw [← hc]; exact ac_DR_pack_4
  have z4 : c' 22 3 4 = c 22 3 4 := by rw [← hc]; exact ac_DR_pack_5
  have z5 : c' 22 3 5 = c 22 3 5 := by rw [← hc]; exact ac_DR_pack_6
  have z6 : c' 22 3 6 = c 22 3 6 := by rw [← hc]; exact ac_DR_pack_7
  have w0 : c' 0 4 0 = c 0 4 0 := by rw [← hc]; exact ac_DR_pack_8
  have w1 : c' 0 4 1 = c 0 4 1 + ch := by rw [← hc]; exact ac_DR_pack_9
  have w2 : c' 0 4 2 = c 0 4 2 := by rw [← hc]; exact ac_DR_pack_10
  have w3 : c' 0 4 3 = c 0 4 3 := by rw [← hc]; exact ac_DR_pack_11
  have w4 : c' 1 4 0 = c 1 4 0 := by rw [← hc]; exact ac_DR_pack_12
  have w5 : c' 2 4 0 = c 2 4 0 := by rw [← hc]; exact ac_DR_pack_13
  have v3 : c' 3 4 (c 22 3 2) = ch := by rw [← hc]; exact ac_DR_pack_14
  have f3 : ∀ j : Int, j ≠ c 22 3 2 → c' 3 4 j = c 3 4 j := by intro j hj; rw [← hc]; exact ac_DR_pack_15 hj
  have v4 : c' 4 4 (c 22 3 2) = 0 := by rw [← hc]; exact ac_DR_pack_16
  have f4 : ∀ j : Int, j ≠ c 22 3 2 → c' 4 4 j = c 4 4 j := by intro j hj; rw [← hc]; exact ac_DR_pack_17 hj
  have v5 : c' 5 4 (c 22 3 2) = 0 := by rw [← hc]; exact ac_DR_pack_18
  have f5 : ∀ j : Int, j ≠ c 22 3 2 → c' 5 4 j = c 5 4 j := by intro j hj; rw [← hc]; exact ac_DR_pack_19 hj
  have e6 : ∀ j : Int, c' 6 4 j = c 6 4 j := by intro j; rw [← hc]; exact ac_DR_pack_20
  have e7 : ∀ j : Int, c' 7 4 j = c 7 4 j := by intro j; rw [← hc]; exact ac_DR_pack_21
  have e8 : ∀ j : Int, c' 8 4 j = c 8 4 j := by intro j; rw [← hc]; exact ac_DR_pack_22
  have e9 : ∀ j : Int, c' 9 4 j = c 9 4 j := by intro j; rw [← hc]; exact ac_DR_pack_23
  have e10 : ∀ j : Int, c' 10 4 j = c 10 4 j := by intro j; rw [← hc]; exact ac_DR_pack_24
  have e11 : ∀ j : Int, c' 11 4 j = c 11 4 j := by intro j; rw [← hc]; exact ac_DR_pack_25
  have e12 : ∀ j : Int, c' 12 4 j = c 12 4 j := by intro j; rw [← hc]; exact ac_DR_pack_26
  have e13 : ∀ j : Int, c' 13 4 j = c 13 4 j := by intro j; rw [← hc]; exact ac_DR_pack_27
  have e14 : ∀ j : Int, c' 14 4 j = c 14 4 j := by intro j; rw [← hc]; exact ac_DR_pack_28
  have v23 : c' 23 3 (c 22 3 2) = cap := by rw [← hc]; exact ac_DR_pack_29
  have f23 : ∀ j : Int, j ≠ c 22 3 2 → c' 23 3 j = c 23 3 j := by intro j hj; rw [← hc]; exact ac_DR_pack_30 hj
  have v24 : c' 24 3 (c 22 3 2) = cv := by rw [← hc]; exact ac_DR_pack_31
  have f24 : ∀ j : Int, j ≠ c 22 3 2 → c' 24 3 j = c 24 3 j := by intro j hj; rw [← hc]; exact ac_DR_pack_32 hj
  have e25 : ∀ j : Int, c' 25 3 j = c 25 3 j := by intro j; rw [← hc]; exact ac_DR_pack_33
  have e26 : ∀ j : Int, c' 26 3 j = c 26 3 j := by intro j; rw [← hc]; exact ac_DR_pack_34
  have e27 : ∀ j : Int, c' 27 3 j = c 27 3 j := by intro j; rw [← hc]; exact ac_DR_pack_35
  have e28 : ∀ j : Int, c' 28 3 j = c 28 3 j := by intro j; rw [← hc]; exact ac_DR_pack_36
  have e29 : ∀ j : Int, c' 29 3 j = c 29 3 j := by intro j; rw [← hc]; exact ac_DR_pack_37
  have e30 : ∀ j : Int, c' 30 3 j = c 30 3 j := by intro j; rw [← hc]; exact ac_DR_pack_38
  have e31 : ∀ j : Int, c' 31 3 j = c 31 3 j := by intro j; rw [← hc]; exact ac_DR_pack_39
  have e32 : ∀ j : Int, c' 32 3 j = c 32 3 j := by intro j; rw [← hc]; exact ac_DR_pack_40
  clear hc
  have x8' : ∀ t, 0 ≤ t → t < c' 1 4 0 → c' 14 4 t = 0 := fun t a b => by rw [e14]; exact x8 t a (by omega)
  refine ⟨⟨by omega, by omega, by omega, by omega, by omega, by omega, by omega, ?_, ?_, ?_, ?_, ?_⟩, ⟨by omega, ?_, ?_, ⟨by omega, ?_⟩, ⟨by omega, fun l a b => by exfalso; omega⟩, ?_⟩, ⟨⟨?_, ?_, ?_, ?_, ?_, ?_, ?_⟩, ?_, ?_, ?_, ?_, ?_, ?_⟩, ⟨⟨?_, ?_, ?_, ?_, ?_, ?_, ?_⟩, ?_, ?_, ?_, ?_, ?_, fun l a b => by exfalso; omega⟩, ?_, ⟨?_, ?_, ?_, ?_, ⟨?_, ?_, ?_, ?_⟩, ⟨by omega, by omega, by omega, by omega, ?_⟩, ?_, ?_, ?_⟩⟩
  · intro q a b
    by_cases eq : q = c 22 3 2
    · subst eq
      rw [v23, v24, z3]
      exact ⟨h1, h3⟩
    · have o := p8 q a (by omega)
      rw [f23 _ eq, f24 _ eq, z3]
      exact o
  · intro f a b
    rw [e25]
    exact p9 f a (by omega)
  · intro q hh a b y z
    rw [e26]
    by_cases eq : q = c 22 3 2
    · rw [x3 q hh (by omega) (by omega) y z]; decide
    · exact p10 q hh a (by omega) y z
  · intro x y a b d e
    rw [e27]
    by_cases eq : x = c 22 3 2 ∨ y = c 22 3 2
    · exact Or.inl (x4 x y a (by omega) d (by omega) (by omega))
    · have o := p11 x y a (by omega) d (by omega)
      omega
  · intro k a b
    have o := p12 k a (by omega)
    rw [e28, e29, e30, e31, e32, e27]
    omega
  · intro q a b
    by_cases eq : q = c 22 3 2
    · subst eq
      unfold Bq roomC
      rw [v3, v4, v5, v23, Int.zero_ediv]
      omega
    · have o := s2 q a (by omega)
      unfold Bq roomC
      rw [f3 _ eq, f4 _ eq, f5 _ eq, f23 _ eq, z0]
      exact o
  · intro k a b
    have o := s3 k a (by omega)
    unfold Bc
    rw [e6, e7, e8]
    exact o
  · intro t a b
    have o := s4 t a (by omega)
    unfold Bt at o ⊢
    rw [e11, e12, e13, e14]
    omega
  · intro k a b
    rw [e10]
    exact s6 k a (by omega)
  · rw [hNo 0 (by omega), z0]; exact r1a
  · rw [hNo 1 (by omega), z1]; exact r1b
  · rw [n0, z2, r1c]
  · rw [hNo 4 (by omega), z3]; exact r1d
  · rw [hNo 6 (by omega), z4]; exact r1e
  · rw [hNo 5 (by omega), z5]; exact r1f
  · rw [hNo 8 (by omega), z6]; exact r1g
  · intro q a b
    by_cases eq : q = c 22 3 2
    · subst eq
      rw [v23, v24, ← r1c]
      exact ⟨n2, n4⟩
    · have o := r2 q a (by omega)
      rw [hNo _ (by omega), hNo _ (by omega), f23 _ eq, f24 _ eq]
      exact o
  · intro f a b
    have o := r3 f a (by omega)
    rw [hNo _ (by omega), e25]
    exact o
  · intro q hh a b y z
    rw [e26, gain_congr (N := N) (hNo 6 (by omega)) (fun s sa sb i ia ib => hNo _ (by omega))]
    by_cases eq : q = c 22 3 2
    · rw [x3 q hh (by omega) (by omega) y z]
      exact gain_none (fun s sa sb => by have := x1 s sa sb; omega)
    · exact r4 q hh a (by omega) y z
  · intro x y a b d e
    rw [e27, bet_congr (N := N) (hNo 5 (by omega)) (fun k ka kb => ⟨hNo _ (by omega), hNo _ (by omega)⟩)]
    by_cases eq : x = c 22 3 2 ∨ y = c 22 3 2
    · rw [x4 x y a (by omega) d (by omega) (by omega)]
      exact bet_none (fun k ka kb => by have := x2 k ka kb; omega)
    · exact r5 x y a (by omega) d (by omega)
  · intro k a b
    have o := r6 k a (by omega)
    rw [hNo _ (by omega), hNo _ (by omega), hNo _ (by omega), hNo _ (by omega), hNo _ (by omega), e28, e29, e30, e31, e32]
    exact o
  · refine ⟨by rw [hNo 6 (by omega)]; exact u1, by rw [hNo 5 (by omega)]; exact u2, fun s a b => ?_, fun k a b => ?_⟩
    · rw [hNo 6 (by omega)] at b
      rw [hNo _ (by omega), hNo _ (by omega), hNo _ (by omega), hNo _ (by omega)]
      exact u3 s a b
    · rw [hNo 5 (by omega)] at b
      rw [hNo _ (by omega), hNo _ (by omega)]
      exact u4 k a b
  · rw [hNo 2 (by omega), w0]; exact t1a
  · rw [n1, w1, t1b]
  · rw [hNo 11 (by omega), w2]; exact t1c
  · rw [hNo 12 (by omega), z5, t1d]
    exact sm_congr (fun i _ _ => (e9 i).symm)
  · rw [hNo 13 (by omega), w3]; exact t1e
  · rw [hNo 7 (by omega), w4]; exact t1f
  · rw [hNo 9 (by omega), w5]; exact t1g
  · intro q a b
    by_cases eq : q = c 22 3 2
    · subst eq
      rw [v3, v4, v5, ← r1c, n3, hNo _ (by omega), hNo _ (by omega), x5a _ (by omega) (by omega), x5a _ (by omega) (by omega)]
      exact ⟨rfl, rfl, rfl⟩
    · have o := t2 q a (by omega)
      rw [hNo _ (by omega), hNo _ (by omega), hNo _ (by omega), f3 _ eq, f4 _ eq, f5 _ eq]
      exact o
  · intro q a b
    rw [num_none (by decide) x8', num_none (by decide) x8', hNo _ (by omega), hNo _ (by omega)]
    by_cases eq : q = c 22 3 2
    · exact ⟨x5a _ (by omega) (by omega), x5a _ (by omega) (by omega)⟩
    · have o := t3 q a (by omega)
      rw [num_none (by decide) x8, num_none (by decide) x8] at o
      exact o
  · intro k a b
    have o := t4 k a (by omega)
    rw [hNo _ (by omega), hNo _ (by omega), hNo _ (by omega), e6, e7, e9]
    exact o
  · intro t a b
    have o := t5 t a (by omega)
    rw [hNo _ (by omega), hNo _ (by omega), hNo _ (by omega), hNo _ (by omega), e11, e12, e13, e14]
    exact o
  · intro k a b
    have o := t6 k a (by omega)
    rw [hNo _ (by omega), e10]
    exact o
  · intro k a b
    have o := h8 k a (by omega)
    rw [hNo _ (by omega), e8]
    exact o
  · intro s a b
    rw [hNo 6 (by omega)] at b
    have o := x1 s a b
    rw [hNo _ (by omega), n0]
    omega
  · intro k a b
    rw [hNo 5 (by omega)] at b
    have o := x2 k a b
    rw [hNo (86 + 6 * k + 0) (by omega), hNo (86 + 6 * k + 1) (by omega), n0]
    omega
  · intro q hh a b y z
    rw [e26]
    exact x3 q hh (by omega) b y z
  · intro x y a b d e g
    rw [e27]
    exact x4 x y a b d e (by omega)
  · intro j a b
    rw [n0] at a
    rw [hNo j (by omega)]
    exact x5a j (by omega) b
  · intro j a b
    rw [hNo 5 (by omega)] at a
    rw [hNo j (by omega)]
    exact x5b j a b
  · intro j a b
    rw [hNo 7 (by omega)] at a
    rw [hNo j (by omega)]
    exact x5c j a b
  · intro j a b
    rw [hNo 8 (by omega)] at a
    rw [hNo j (by omega)]
    exact x5d j a b
  · rw [w1, z2, x6e, show (c 22 3 2 + 1).toNat = (c 22 3 2).toNat + 1 by omega, sm_s, show ((c 22 3 2).toNat : Int) = c 22 3 2 by omega, v3]
    rw [sm_congr (g := c 3 4) (fun i a b => f3 i (by omega))]
  · intro k a b
    rw [e9, e8]
    exact x7 k a (by omega)
  · exact x8'
  · intro q a b
    by_cases eq : q = c 22 3 2
    · subst eq; rw [v3]; omega
    · rw [f3 _ eq]; exact x9 q a (by omega)
theorem ac_DR_trip_1 {c : Mem} {q ti x : Int} : (addT c 4 q ti x) 22 3 0 = c 22 3 0 := by simp [addT, up3_apply]
theorem ac_DR_trip_2 {c : Mem} {q ti x : Int} : (addT c 4 q ti x) 22 3 1 = c 22 3 1 := by simp [addT, up3_apply]
theorem ac_DR_trip_3 {c : Mem} {q ti x : Int} : (addT c 4 q ti x) 22 3 2 = c 22 3 2 := by simp [addT, up3_apply]
theorem ac_DR_trip_4 {c : Mem} {q ti x : Int} : (addT c 4 q ti x) 22 3 3 = c 22 3 3 := by simp [addT, up3_apply]
theorem ac_DR_trip_5 {c : Mem} {q ti x : Int} : (addT c 4 q ti x) 22 3 4 = c 22 3 4 := by simp [addT, up3_apply]
theorem ac_DR_trip_6 {c : Mem} {q ti x : Int} : (addT c 4 q ti x) 22 3 5 = c 22 3 5 := by simp [addT, up3_apply]
theorem ac_DR_trip_7 {c : Mem} {q ti x : Int} : (addT c 4 q ti x) 22 3 6 = c 22 3 6 := by simp [addT, up3_apply]
theorem ac_DR_trip_8 {c : Mem} {q ti x : Int} : (addT c 4 q ti x) 0 4 0 = c 0 4 0 := by simp [addT, up3_apply]
theorem ac_DR_trip_9 {c : Mem} {q ti x : Int} : (addT c 4 q ti x) 0 4 1 = c 0 4 1 := by simp [addT, up3_apply]
theorem ac_DR_trip_10 {c : Mem} {q ti x : Int} : (addT c 4 q ti x) 0 4 2 = c 0 4 2 := by simp [addT, up3_apply]
theorem ac_DR_trip_11 {c : Mem} {q ti x : Int} : (addT c 4 q ti x) 0 4 3 = c 0 4 3 := by simp [addT, up3_apply]
theorem ac_DR_trip_12 {c : Mem} {q ti x : Int} : (addT c 4 q ti x) 1 4 0 = c 1 4 0 + 1 := by simp [addT, up3_apply]
theorem ac_DR_trip_13 {c : Mem} {q ti x : Int} : (addT c 4 q ti x) 2 4 0 = c 2 4 0 := by simp [addT, up3_apply]
theorem ac_DR_trip_14 {c : Mem} {q ti x : Int} {j : Int} : (addT c 4 q ti x) 3 4 j = c 3 4 j := by simp [addT, up3_apply]
theorem ac_DR_trip_15 {c : Mem} {q ti x : Int} {j : Int} : (addT c 4 q ti x) 4 4 j = c 4 4 j := by simp [addT, up3_apply]
theorem ac_DR_trip_16 {c : Mem} {q ti x : Int} {j : Int} : (addT c 4 q ti x) 5 4 j = c 5 4 j := by simp [addT, up3_apply]
theorem ac_DR_trip_17 {c : Mem} {q ti x : Int} {j : Int} : (addT c 4 q ti x) 6 4 j = c 6 4 j := by simp [addT, up3_apply]
theorem ac_DR_trip_18 {c : Mem} {q ti x : Int} {j : Int} : (addT c 4 q ti x) 7 4 j = c 7 4 j := by simp [addT, up3_apply]
theorem ac_DR_trip_19 {c : Mem} {q ti x : Int} {j : Int} : (addT c 4 q ti x) 8 4 j = c 8 4 j := by simp [addT, up3_apply]
theorem ac_DR_trip_20 {c : Mem} {q ti x : Int} {j : Int} : (addT c 4 q ti x) 9 4 j = c 9 4 j := by simp [addT, up3_apply]
theorem ac_DR_trip_21 {c : Mem} {q ti x : Int} {j : Int} : (addT c 4 q ti x) 10 4 j = c 10 4 j := by simp [addT, up3_apply]
theorem ac_DR_trip_22 {c : Mem} {q ti x : Int} : (addT c 4 q ti x) 11 4 (c 1 4 0) = q := by simp [addT, up3_apply]
theorem ac_DR_trip_23 {c : Mem} {q ti x : Int} {j : Int} (hj : j ≠ c 1 4 0) : (addT c 4 q ti x) 11 4 j = c 11 4 j := by simp [addT, up3_apply, hj]
theorem ac_DR_trip_24 {c : Mem} {q ti x : Int} : (addT c 4 q ti x) 12 4 (c 1 4 0) = ti := by simp [addT, up3_apply]
theorem ac_DR_trip_25 {c : Mem} {q ti x : Int} {j : Int} (hj : j ≠ c 1 4 0) : (addT c 4 q ti x) 12 4 j = c 12 4 j := by simp [addT, up3_apply, hj]
theorem ac_DR_trip_26 {c : Mem} {q ti x : Int} : (addT c 4 q ti x) 13 4 (c 1 4 0) = x := by simp [addT, up3_apply]
theorem ac_DR_trip_27 {c : Mem} {q ti x : Int} {j : Int} (hj : j ≠ c 1 4 0) : (addT c 4 q ti x) 13 4 j = c 13 4 j := by simp [addT, up3_apply, hj]
theorem ac_DR_trip_28 {c : Mem} {q ti x : Int} : (addT c 4 q ti x) 14 4 (c 1 4 0) = 0 := by simp [addT, up3_apply]
theorem ac_DR_trip_29 {c : Mem} {q ti x : Int} {j : Int} (hj : j ≠ c 1 4 0) : (addT c 4 q ti x) 14 4 j = c 14 4 j := by simp [addT, up3_apply, hj]
theorem ac_DR_trip_30 {c : Mem} {q ti x : Int} {j : Int} : (addT c 4 q ti x) 23 3 j = c 23 3 j := by simp [addT, up3_apply]
theorem ac_DR_trip_31 {c : Mem} {q ti x : Int} {j : Int} : (addT c 4 q ti x) 24 3 j = c 24 3 j := by simp [addT, up3_apply]
theorem ac_DR_trip_32 {c : Mem} {q ti x : Int} {j : Int} : (addT c 4 q ti x) 25 3 j = c 25 3 j := by simp [addT, up3_apply]
theorem ac_DR_trip_33 {c : Mem} {q ti x : Int} {j : Int} : (addT c 4 q ti x) 26 3 j = c 26 3 j := by simp [addT, up3_apply]
theorem ac_DR_trip_34 {c : Mem} {q ti x : Int} {j : Int} : (addT c 4 q ti x) 27 3 j = c 27 3 j := by simp [addT, up3_apply]
theorem ac_DR_trip_35 {c : Mem} {q ti x : Int} {j : Int} : (addT c 4 q ti x) 28 3 j = c 28 3 j := by simp [addT, up3_apply]
theorem ac_DR_trip_36 {c : Mem} {q ti x : Int} {j : Int} : (addT c 4 q ti x) 29 3 j = c 29 3 j := by simp [addT, up3_apply]
theorem ac_DR_trip_37 {c : Mem} {q ti x : Int} {j : Int} : (addT c 4 q ti x) 30 3 j = c 30 3 j := by simp [addT, up3_apply]
theorem ac_DR_trip_38 {c : Mem} {q ti x : Int} {j : Int} : (addT c 4 q ti x) 31 3 j = c 31 3 j := by simp [addT, up3_apply]
theorem ac_DR_trip_39 {c : Mem} {q ti x : Int} {j : Int} : (addT c 4 q ti x) 32 3 j = c 32 3 j := by simp [addT, up3_apply]
set_option maxHeartbeats 4000000 in
theorem DR_trip {c : Mem} {N N' : Int → Int} {q ti x : Int} (h : DRN c N) (hn : c 1 4 0 < 16) (h1 : 0 ≤ q ∧ q < c 22 3 2) (h2 : 0 ≤ ti ∧ ti ≤ 9999) (h3 : 1 ≤ x ∧ x ≤ 100000) (hN : N' (7) = N 7 + 1 ∧ N' (206 + 4 * N 7 + 0) = q ∧ N' (206 + 4 * N 7 + 1) = ti ∧ N' (206 + 4 * N 7 + 2) = x) (hNo : ∀ j, (j ≠ 7 ∧ j ≠ 206 + 4 * N 7 + 0 ∧ j ≠ 206 + 4 * N 7 + 1 ∧ j ≠ 206 + 4 * N 7 + 2) → N' j = N j) : DRN (addT c 4 q ti x) N' := by
  obtain ⟨hP, hB, hR, hS, h8, hX⟩ := h
  obtain ⟨p1, p2, p3, p4, p5, p6, p7, p8, p9, p10, p11, p12⟩ := hP
  obtain ⟨s1, s2, s3, ⟨s4a, s4⟩, ⟨s5a, s5⟩, s6⟩ := hB
  obtain ⟨⟨r1a, r1b, r1c, r1d, r1e, r1f, r1g⟩, r2, r3, r4, r5, r6, r7⟩ := hR
  obtain ⟨⟨t1a, t1b, t1c, t1d, t1e, t1f, t1g⟩, t2, t3, t4, t5, t6, t7⟩ := hS
  obtain ⟨x1, x2, x3, x4, ⟨x5a, x5b, x5c, x5d⟩, ⟨x6a, x6b, x6c, x6d, x6e⟩, x7, x8, x9⟩ := hX
  obtain ⟨u1, u2, u3, u4⟩ := r7
  obtain ⟨n0, n1, n2, n3⟩ := hN
  generalize hc : addT c 4 q ti x = c'
  have z0 : c' 22 3 0 = c 22 3 0 := by rw [← hc]; exact ac_DR_trip_1
  have z1 : c' 22 3 1 = c 22 3 1 := by rw [← hc]; exact ac_DR_trip_2
  have z2 : c' 22 3 2 = c 22 3 2 := by rw [← hc]; exact ac_DR_trip_3
  have z3 : c' 22 3 3 = c 22 3 3 := by rw [← hc]; exact ac_DR_trip_4
  have z4 : c' 22 3 4 = c 22 3 4 := by rw [← hc]; exact ac_DR_trip_5
  have z5 : c' 22 3 5 = c 22 3 5 := by rw [← hc]; exact ac_DR_trip_6
  have z6 : c' 22 3 6 = c 22 3 6 := by rw [← hc]; exact ac_DR_trip_7
  have w0 : c' 0 4 0 = c 0 4 0 := by rw [← hc]; exact ac_DR_trip_8
  have w1 : c' 0 4 1 = c 0 4 1 := by rw [← hc]; exact ac_DR_trip_9
  have w2 : c' 0 4 2 = c 0 4 2 := by rw [← hc]; exact ac_DR_trip_10
  have w3 : c' 0 4 3 = c 0 4 3 := by rw [← hc]; exact ac_DR_trip_11
  have w4 : c' 1 4 0 = c 1 4 0 + 1 := by rw [← hc]; exact ac_DR_trip_12
  have w5 : c' 2 4 0 = c 2 4 0 := by rw [← hc]; exact ac_DR_trip_13
  have e3 : ∀ j : Int, c' 3 4 j = c 3 4 j := by intro j; rw [← hc]; exact ac_DR_trip_14
  have e4 : ∀ j : Int, c' 4 4 j = c 4 4 j := by intro j; rw [← hc]; exact ac_DR_trip_15
  have e5 : ∀ j : Int, c' 5 4 j = c 5 4 j := by intro j; rw [← hc]; exact ac_DR_trip_16
  have e6 : ∀ j : Int, c' 6 4 j = c 6 4 j := by intro j; rw [← hc]; exact ac_DR_trip_17
  have e7 : ∀ j : Int, c' 7 4 j = c 7 4 j := by intro j; rw [← hc]; exact ac_DR_trip_18
  have e8 : ∀ j : Int, c' 8 4 j = c 8 4 j := by intro j; rw [← hc]; exact ac_DR_trip_19
  have e9 : ∀ j : Int, c' 9 4 j = c 9 4 j := by intro j; rw [← hc]; exact ac_DR_trip_20
  have e10 : ∀ j : Int, c' 10 4 j = c 10 4 j := by intro j; rw [← hc]; exact ac_DR_trip_21
  have v11 : c' 11 4 (c 1 4 0) = q := by rw [← hc]; exact ac_DR_trip_22
  have f11 : ∀ j : Int, j ≠ c 1 4 0 → c' 11 4 j = c 11 4 j := by intro j hj; rw [← hc]; exact ac_DR_trip_23 hj
  have v12 : c' 12 4 (c 1 4 0) = ti := by rw [← hc]; exact ac_DR_trip_24
  have f12 : ∀ j : Int, j ≠ c 1 4 0 → c' 12 4 j = c 12 4 j := by intro j hj; rw [← hc]; exact ac_DR_trip_25 hj
  have v13 : c' 13 4 (c 1 4 0) = x := by rw [← hc]; exact ac_DR_trip_26
  have f13 : ∀ j : Int, j ≠ c 1 4 0 → c' 13 4 j = c 13 4 j := by intro j hj; rw [← hc]; exact ac_DR_trip_27 hj
  have v14 : c' 14 4 (c 1 4 0) = 0 := by rw [← hc]; exact ac_DR_trip_28
  have f14 : ∀ j : Int, j ≠ c 1 4 0 → c' 14 4 j = c 14 4 j := by intro j hj; rw [← hc]; exact ac_DR_trip_29 hj
  have e23 : ∀ j : Int, c' 23 3 j = c 23 3 j := by intro j; rw [← hc]; exact ac_DR_trip_30
  have e24 : ∀ j : Int, c' 24 3 j = c 24 3 j := by intro j; rw [← hc]; exact ac_DR_trip_31
  have e25 : ∀ j : Int, c' 25 3 j = c 25 3 j := by intro j; rw [← hc]; exact ac_DR_trip_32
  have e26 : ∀ j : Int, c' 26 3 j = c 26 3 j := by intro j; rw [← hc]; exact ac_DR_trip_33
  have e27 : ∀ j : Int, c' 27 3 j = c 27 3 j := by intro j; rw [← hc]; exact ac_DR_trip_34
  have e28 : ∀ j : Int, c' 28 3 j = c 28 3 j := by intro j; rw [← hc]; exact ac_DR_trip_35
  have e29 : ∀ j : Int, c' 29 3 j = c 29 3 j := by intro j; rw [← hc]; exact ac_DR_trip_36
  have e30 : ∀ j : Int, c' 30 3 j = c 30 3 j := by intro j; rw [← hc]; exact ac_DR_trip_37
  have e31 : ∀ j : Int, c' 31 3 j = c 31 3 j := by intro j; rw [← hc]; exact ac_DR_trip_38
  have e32 : ∀ j : Int, c' 32 3 j = c 32 3 j := by intro j; rw [← hc]; exact ac_DR_trip_39
  clear hc
  have x8' : ∀ t, 0 ≤ t → t < c' 1 4 0 → c' 14 4 t = 0 := fun t a b => by
    by_cases eq : t = c 1 4 0
    · rw [eq, v14]
    · rw [f14 _ eq]; exact x8 t a (by omega)
  refine ⟨⟨by omega, by omega, by omega, by omega, by omega, by omega, by omega, ?_, ?_, ?_, ?_, ?_⟩, ⟨by omega, ?_, ?_, ⟨by omega, ?_⟩, ⟨by omega, fun l a b => by exfalso; omega⟩, ?_⟩, ⟨⟨?_, ?_, ?_, ?_, ?_, ?_, ?_⟩, ?_, ?_, ?_, ?_, ?_, ?_⟩, ⟨⟨?_, ?_, ?_, ?_, ?_, ?_, ?_⟩, ?_, ?_, ?_, ?_, ?_, fun l a b => by exfalso; omega⟩, ?_, ⟨?_, ?_, ?_, ?_, ⟨?_, ?_, ?_, ?_⟩, ⟨by omega, by omega, by omega, by omega, ?_⟩, ?_, ?_, ?_⟩⟩
  · intro q a b
    have o := p8 q a (by omega)
    rw [e23, e24]
    omega
  · intro f a b
    rw [e25]
    exact p9 f a (by omega)
  · intro q hh a b y z
    rw [e26]
    exact p10 q hh a (by omega) y z
  · intro x y a b d e
    have o := p11 x y a (by omega) d (by omega)
    rw [e27]
    omega
  · intro k a b
    have o := p12 k a (by omega)
    rw [e28, e29, e30, e31, e32, e27, z2, z5]
    exact o
  · intro q a b
    have o := s2 q a (by omega)
    unfold Bq roomC
    rw [e3, e4, e5, e23, z0]
    exact o
  · intro k a b
    have o := s3 k a (by omega)
    unfold Bc
    rw [e6, e7, e8]
    exact o
  · intro t a b
    by_cases eq : t = c 1 4 0
    · subst eq
      unfold Bt
      rw [v11, v12, v13, v14, z2]
      omega
    · have o := s4 t a (by omega)
      unfold Bt at o ⊢
      rw [f11 _ eq, f12 _ eq, f13 _ eq, f14 _ eq, z2]
      exact o
  · intro k a b
    rw [e10]
    exact s6 k a (by omega)
  · rw [hNo 0 (by omega), z0]; exact r1a
  · rw [hNo 1 (by omega), z1]; exact r1b
  · rw [hNo 3 (by omega), z2]; exact r1c
  · rw [hNo 4 (by omega), z3]; exact r1d
  · rw [hNo 6 (by omega), z4]; exact r1e
  · rw [hNo 5 (by omega), z5]; exact r1f
  · rw [hNo 8 (by omega), z6]; exact r1g
  · intro q a b
    have o := r2 q a (by omega)
    rw [hNo _ (by omega), hNo _ (by omega), e23, e24]
    exact o
  · intro f a b
    have o := r3 f a (by omega)
    rw [hNo _ (by omega), e25]
    exact o
  · intro q hh a b y z
    rw [e26, gain_congr (N := N) (hNo 6 (by omega)) (fun s sa sb i ia ib => hNo _ (by omega))]
    exact r4 q hh a (by omega) y z
  · intro x y a b d e
    rw [e27, bet_congr (N := N) (hNo 5 (by omega)) (fun k ka kb => ⟨hNo _ (by omega), hNo _ (by omega)⟩)]
    exact r5 x y a (by omega) d (by omega)
  · intro k a b
    have o := r6 k a (by omega)
    rw [hNo _ (by omega), hNo _ (by omega), hNo _ (by omega), hNo _ (by omega), hNo _ (by omega), e28, e29, e30, e31, e32]
    exact o
  · refine ⟨by rw [hNo 6 (by omega)]; exact u1, by rw [hNo 5 (by omega)]; exact u2, fun s a b => ?_, fun k a b => ?_⟩
    · rw [hNo 6 (by omega)] at b
      rw [hNo _ (by omega), hNo _ (by omega), hNo _ (by omega), hNo _ (by omega)]
      exact u3 s a b
    · rw [hNo 5 (by omega)] at b
      rw [hNo _ (by omega), hNo _ (by omega)]
      exact u4 k a b
  · rw [hNo 2 (by omega), w0]; exact t1a
  · rw [hNo 10 (by omega), w1]; exact t1b
  · rw [hNo 11 (by omega), w2]; exact t1c
  · rw [hNo 12 (by omega), z5, t1d]
    exact sm_congr (fun i _ _ => (e9 i).symm)
  · rw [hNo 13 (by omega), w3]; exact t1e
  · rw [n0, w4, t1f]
  · rw [hNo 9 (by omega), w5]; exact t1g
  · intro q a b
    have o := t2 q a (by omega)
    rw [hNo _ (by omega), hNo _ (by omega), hNo _ (by omega), e3, e4, e5]
    exact o
  · intro q a b
    have o := t3 q a (by omega)
    rw [num_none (by decide) x8, num_none (by decide) x8] at o
    rw [num_none (by decide) x8', num_none (by decide) x8', hNo _ (by omega), hNo _ (by omega)]
    exact o
  · intro k a b
    have o := t4 k a (by omega)
    rw [hNo _ (by omega), hNo _ (by omega), hNo _ (by omega), e6, e7, e9]
    exact o
  · intro t a b
    by_cases eq : t = c 1 4 0
    · subst eq
      rw [v11, v12, v13, v14, ← t1f]
      exact ⟨n1, n2, n3, by rw [hNo _ (by omega)]; exact x5c _ (by omega) (by omega)⟩
    · have o := t5 t a (by omega)
      rw [hNo _ (by omega), hNo _ (by omega), hNo _ (by omega), hNo _ (by omega), f11 _ eq, f12 _ eq, f13 _ eq, f14 _ eq]
      exact o
  · intro k a b
    have o := t6 k a (by omega)
    rw [hNo _ (by omega), e10]
    exact o
  · intro k a b
    have o := h8 k a (by omega)
    rw [hNo _ (by omega), e8]
    exact o
  · intro s a b
    rw [hNo 6 (by omega)] at b
    have o := x1 s a b
    rw [hNo _ (by omega), hNo 3 (by omega)]
    exact o
  · intro k a b
    rw [hNo 5 (by omega)] at b
    have o := x2 k a b
    rw [hNo (86 + 6 * k + 0) (by omega), hNo (86 + 6 * k + 1) (by omega), hNo 3 (by omega)]
    exact o
  · intro q hh a b y z
    rw [e26]
    exact x3 q hh (by omega) b y z
  · intro x y a b d e g
    rw [e27]
    exact x4 x y a b d e (by omega)
  · intro j a b
    rw [hNo 3 (by omega)] at a
    rw [hNo j (by omega)]
    exact x5a j a b
  · intro j a b
    rw [hNo 5 (by omega)] at a
    rw [hNo j (by omega)]
    exact x5b j a b
  · intro j a b
    rw [n0] at a
    rw [hNo j (by omega)]
    exact x5c j (by omega) b
  · intro j a b
    rw [hNo 8 (by omega)] at a
    rw [hNo j (by omega)]
    exact x5d j a b
  · rw [w1, z2, x6e]
    exact sm_congr (fun i _ _ => (e3 i).symm)
  · intro k a b
    rw [e9, e8]
    exact x7 k a (by omega)
  · exact x8'
  · intro q a b
    rw [e3]
    exact x9 q a (by omega)
theorem ac_DR_contract_1 {c : Mem} {x y li no gr : Int} : (addK c x y li no gr) 22 3 0 = c 22 3 0 := by simp [addK, up3_apply]
theorem ac_DR_contract_2 {c : Mem} {x y li no gr : Int} : (addK c x y li no gr) 22 3 1 = c 22 3 1 := by simp [addK, up3_apply]
theorem ac_DR_contract_3 {c : Mem} {x y li no gr : Int} : (addK c x y li no gr) 22 3 2 = c 22 3 2 := by simp [addK, up3_apply]
theorem ac_DR_contract_4 {c : Mem} {x y li no gr : Int} : (addK c x y li no gr) 22 3 3 = c 22 3 3 := by simp [addK, up3_apply]
theorem ac_DR_contract_5 {c : Mem} {x y li no gr : Int} : (addK c x y li no gr) 22 3 4 = c 22 3 4 := by simp [addK, up3_apply]
theorem ac_DR_contract_6 {c : Mem} {x y li no gr : Int} : (addK c x y li no gr) 22 3 5 = c 22 3 5 := by simp [addK, up3_apply]
theorem ac_DR_contract_7 {c : Mem} {x y li no gr : Int} : (addK c x y li no gr) 22 3 6 = c 22 3 6 + 1 := by simp [addK, up3_apply]
theorem ac_DR_contract_8 {c : Mem} {x y li no gr : Int} : (addK c x y li no gr) 0 4 0 = c 0 4 0 := by simp [addK, up3_apply]
theorem ac_DR_contract_9 {c : Mem} {x y li no gr : Int} : (addK c x y li no gr) 0 4 1 = c 0 4 1 := by simp [addK, up3_apply]
theorem ac_DR_contract_10 {c : Mem} {x y li no gr : Int} : (addK c x y li no gr) 0 4 2 = c 0 4 2 := by simp [addK, up3_apply]
theorem ac_DR_contract_11 {c : Mem} {x y li no gr : Int} : (addK c x y li no gr) 0 4 3 = c 0 4 3 := by simp [addK, up3_apply]
theorem ac_DR_contract_12 {c : Mem} {x y li no gr : Int} : (addK c x y li no gr) 1 4 0 = c 1 4 0 := by simp [addK, up3_apply]
theorem ac_DR_contract_13 {c : Mem} {x y li no gr : Int} : (addK c x y li no gr) 2 4 0 = c 2 4 0 := by simp [addK, up3_apply]
theorem ac_DR_contract_14 {c : Mem} {x y li no gr : Int} {j : Int} : (addK c x y li no gr) 3 4 j = c 3 4 j := by simp [addK, up3_apply]
theorem ac_DR_contract_15 {c : Mem} {x y li no gr : Int} {j : Int} : (addK c x y li no gr) 4 4 j = c 4 4 j := by simp [addK, up3_apply]
theorem ac_DR_contract_16 {c : Mem} {x y li no gr : Int} {j : Int} : (addK c x y li no gr) 5 4 j = c 5 4 j := by simp [addK, up3_apply]
theorem ac_DR_contract_17 {c : Mem} {x y li no gr : Int} {j : Int} : (addK c x y li no gr) 6 4 j = c 6 4 j := by simp [addK, up3_apply]
theorem ac_DR_contract_18 {c : Mem} {x y li no gr : Int} {j : Int} : (addK c x y li no gr) 7 4 j = c 7 4 j := by simp [addK, up3_apply]
theorem ac_DR_contract_19 {c : Mem} {x y li no gr : Int} {j : Int} : (addK c x y li no gr) 8 4 j = c 8 4 j := by simp [addK, up3_apply]
theorem ac_DR_contract_20 {c : Mem} {x y li no gr : Int} {j : Int} : (addK c x y li no gr) 9 4 j = c 9 4 j := by simp [addK, up3_apply]
theorem ac_DR_contract_21 {c : Mem} {x y li no gr : Int} : (addK c x y li no gr) 10 4 (c 22 3 6) = 0 := by simp [addK, up3_apply]
theorem ac_DR_contract_22 {c : Mem} {x y li no gr : Int} {j : Int} (hj : j ≠ c 22 3 6) : (addK c x y li no gr) 10 4 j = c 10 4 j := by simp [addK, up3_apply, hj]
theorem ac_DR_contract_23 {c : Mem} {x y li no gr : Int} {j : Int} : (addK c x y li no gr) 11 4 j = c 11 4 j := by simp [addK, up3_apply]
theorem ac_DR_contract_24 {c : Mem} {x y li no gr : Int} {j : Int} : (addK c x y li no gr) 12 4 j = c 12 4 j := by simp [addK, up3_apply]
theorem ac_DR_contract_25 {c : Mem} {x y li no gr : Int} {j : Int} : (addK c x y li no gr) 13 4 j = c 13 4 j := by simp [addK, up3_apply]
theorem ac_DR_contract_26 {c : Mem} {x y li no gr : Int} {j : Int} : (addK c x y li no gr) 14 4 j = c 14 4 j := by simp [addK, up3_apply]
theorem ac_DR_contract_27 {c : Mem} {x y li no gr : Int} {j : Int} : (addK c x y li no gr) 23 3 j = c 23 3 j := by simp [addK, up3_apply]
theorem ac_DR_contract_28 {c : Mem} {x y li no gr : Int} {j : Int} : (addK c x y li no gr) 24 3 j = c 24 3 j := by simp [addK, up3_apply]
theorem ac_DR_contract_29 {c : Mem} {x y li no gr : Int} {j : Int} : (addK c x y li no gr) 25 3 j = c 25 3 j := by simp [addK, up3_apply]
theorem ac_DR_contract_30 {c : Mem} {x y li no gr : Int} {j : Int} : (addK c x y li no gr) 26 3 j = c 26 3 j := by simp [addK, up3_apply]
theorem ac_DR_contract_31 {c : Mem} {x y li no gr : Int} {j : Int} : (addK c x y li no gr) 27 3 j = c 27 3 j := by simp [addK, up3_apply]
theorem ac_DR_contract_32 {c : Mem} {x y li no gr : Int} : (addK c x y li no gr) 28 3 (c 22 3 6) = x := by simp [addK, up3_apply]
theorem ac_DR_contract_33 {c : Mem} {x y li no gr : Int} {j : Int} (hj : j ≠ c 22 3 6) : (addK c x y li no gr) 28 3 j = c 28 3 j := by simp [addK, up3_apply, hj]
theorem ac_DR_contract_34 {c : Mem} {x y li no gr : Int} : (addK c x y li no gr) 29 3 (c 22 3 6) = y := by simp [addK, up3_apply]
theorem ac_DR_contract_35 {c : Mem} {x y li no gr : Int} {j : Int} (hj : j ≠ c 22 3 6) : (addK c x y li no gr) 29 3 j = c 29 3 j := by simp [addK, up3_apply, hj]
theorem ac_DR_contract_36 {c : Mem} {x y li no gr : Int} : (addK c x y li no gr) 30 3 (c 22 3 6) = li := by simp [addK, up3_apply]
theorem ac_DR_contract_37 {c : Mem} {x y li no gr : Int} {j : Int} (hj : j ≠ c 22 3 6) : (addK c x y li no gr) 30 3 j = c 30 3 j := by simp [addK, up3_apply, hj]
theorem ac_DR_contract_38 {c : Mem} {x y li no gr : Int} : (addK c x y li no gr) 31 3 (c 22 3 6) = no := by simp [addK, up3_apply]
theorem ac_DR_contract_39 {c : Mem} {x y li no gr : Int} {j : Int} (hj : j ≠ c 22 3 6) : (addK c x y li no gr) 31 3 j = c 31 3 j := by simp [addK, up3_apply, hj]
theorem ac_DR_contract_40 {c : Mem} {x y li no gr : Int} : (addK c x y li no gr) 32 3 (c 22 3 6) = gr := by simp [addK, up3_apply]
theorem ac_DR_contract_41 {c : Mem} {x y li no gr : Int} {j : Int} (hj : j ≠ c 22 3 6) : (addK c x y li no gr) 32 3 j = c 32 3 j := by simp [addK, up3_apply, hj]
set_option maxHeartbeats 4000000 in
theorem DR_contract {c : Mem} {N N' : Int → Int} {x y li no gr : Int} (h : DRN c N) (hn : c 22 3 6 < 8) (h1 : 0 ≤ x ∧ x < c 22 3 2) (h2 : 0 ≤ y ∧ y < c 22 3 2) (h3 : 1 ≤ li ∧ li ≤ 100000) (h4 : 0 ≤ no ∧ no ≤ 99) (h5 : 0 ≤ gr ∧ gr ≤ 99) (h6 : x ≠ y) (h7 : 0 ≤ c 27 3 (x * 8 + y) ∧ c 27 3 (x * 8 + y) < c 22 3 5) (hN : N' (8) = N 8 + 1 ∧ N' (270 + 6 * N 8 + 0) = x ∧ N' (270 + 6 * N 8 + 1) = y ∧ N' (270 + 6 * N 8 + 2) = li ∧ N' (270 + 6 * N 8 + 3) = no ∧ N' (270 + 6 * N 8 + 4) = gr) (hNo : ∀ j, (j ≠ 8 ∧ j ≠ 270 + 6 * N 8 + 0 ∧ j ≠ 270 + 6 * N 8 + 1 ∧ j ≠ 270 + 6 * N 8 + 2 ∧ j ≠ 270 + 6 * N 8 + 3 ∧ j ≠ 270 + 6 * N 8 + 4) → N' j = N j) : DRN (addK c x y li no gr) N' := by
  obtain ⟨hP, hB, hR, hS, h8, hX⟩ := h
  obtain ⟨p1, p2, p3, p4, p5, p6, p7, p8, p9, p10, p11, p12⟩ := hP
  obtain ⟨s1, s2, s3, ⟨s4a, s4⟩, ⟨s5a, s5⟩, s6⟩ := hB
  obtain ⟨⟨r1a, r1b, r1c, r1d, r1e, r1f, r1g⟩, r2, r3, r4, r5, r6, r7⟩ := hR
  obtain ⟨⟨t1a, t1b, t1c, t1d, t1e, t1f, t1g⟩, t2, t3, t4, t5, t6, t7⟩ := hS
  obtain ⟨x1, x2, x3, x4, ⟨x5a, x5b, x5c, x5d⟩, ⟨x6a, x6b, x6c, x6d, x6e⟩, x7, x8, x9⟩ := hX
  obtain ⟨u1, u2, u3, u4⟩ := r7
  obtain ⟨n0, n1, n2, n3, n4, n5⟩ := hN
  generalize hc : addK c x y li no gr = c'
  have z0 : c' 22 3 0 = c 22 3 0 := by rw [← hc]; exact ac_DR_contract_1
  have z1 : c' 22 3 1 = c 22 3 1 := by rw [← hc]; exact ac_DR_contract_2
  have z2 : c' 22 3 2 = c 22 3 2 := by rw [← hc]; exact ac_DR_contract_3
  have z3 : c' 22 3 3 = c 22 3 3 := by rw [← hc]; exact ac_DR_contract_4
  have z4 : c' 22 3 4 = c 22 3 4 := by rw [← hc]; exact ac_DR_contract_5
  have z5 : c' 22 3 5 = c 22 3 5 := by rw [← hc]; exact ac_DR_contract_6
  have z6 : c' 22 3 6 = c 22 3 6 + 1 := by rw [← hc]; exact ac_DR_contract_7
  have w0 : c' 0 4 0 = c 0 4 0 := by rw [← hc]; exact ac_DR_contract_8
  have w1 : c' 0 4 1 = c 0 4 1 := by rw [← hc]; exact ac_DR_contract_9
  have w2 : c' 0 4 2 = c 0 4 2 := by rw [← hc]; exact ac_DR_contract_10
  have w3 : c' 0 4 3 = c 0 4 3 := by rw [← hc]; exact ac_DR_contract_11
  have w4 : c' 1 4 0 = c 1 4 0 := by rw [← hc]; exact ac_DR_contract_12
  have w5 : c' 2 4 0 = c 2 4 0 := by rw [← hc]; exact ac_DR_contract_13
  have e3 : ∀ j : Int, c' 3 4 j = c 3 4 j := by intro j; rw [← hc]; exact ac_DR_contract_14
  have e4 : ∀ j : Int, c' 4 4 j = c 4 4 j := by intro j; rw [← hc]; exact ac_DR_contract_15
  have e5 : ∀ j : Int, c' 5 4 j = c 5 4 j := by intro j; rw [← hc]; exact ac_DR_contract_16
  have e6 : ∀ j : Int, c' 6 4 j = c 6 4 j := by intro j; rw [← hc]; exact ac_DR_contract_17
  have e7 : ∀ j : Int, c' 7 4 j = c 7 4 j := by intro j; rw [← hc]; exact ac_DR_contract_18
  have e8 : ∀ j : Int, c' 8 4 j = c 8 4 j := by intro j; rw [← hc]; exact ac_DR_contract_19
  have e9 : ∀ j : Int, c' 9 4 j = c 9 4 j := by intro j; rw [← hc]; exact ac_DR_contract_20
  have v10 : c' 10 4 (c 22 3 6) = 0 := by rw [← hc]; exact ac_DR_contract_21
  have f10 : ∀ j : Int, j ≠ c 22 3 6 → c' 10 4 j = c 10 4 j := by intro j hj; rw [← hc]; exact ac_DR_contract_22 hj
  have e11 : ∀ j : Int, c' 11 4 j = c 11 4 j := by intro j; rw [← hc]; exact ac_DR_contract_23
  have e12 : ∀ j : Int, c' 12 4 j = c 12 4 j := by intro j; rw [← hc]; exact ac_DR_contract_24
  have e13 : ∀ j : Int, c' 13 4 j = c 13 4 j := by intro j; rw [← hc]; exact ac_DR_contract_25
  have e14 : ∀ j : Int, c' 14 4 j = c 14 4 j := by intro j; rw [← hc]; exact ac_DR_contract_26
  have e23 : ∀ j : Int, c' 23 3 j = c 23 3 j := by intro j; rw [← hc]; exact ac_DR_contract_27
  have e24 : ∀ j : Int, c' 24 3 j = c 24 3 j := by intro j; rw [← hc]; exact ac_DR_contract_28
  have e25 : ∀ j : Int, c' 25 3 j = c 25 3 j := by intro j; rw [← hc]; exact ac_DR_contract_29
  have e26 : ∀ j : Int, c' 26 3 j = c 26 3 j := by intro j; rw [← hc]; exact ac_DR_contract_30
  have e27 : ∀ j : Int, c' 27 3 j = c 27 3 j := by intro j; rw [← hc]; exact ac_DR_contract_31
  have v28 : c' 28 3 (c 22 3 6) = x := by rw [← hc]; exact ac_DR_contract_32
  have f28 : ∀ j : Int, j ≠ c 22 3 6 → c' 28 3 j = c 28 3 j := by intro j hj; rw [← hc]; exact ac_DR_contract_33 hj
  have v29 : c' 29 3 (c 22 3 6) = y := by rw [← hc]; exact ac_DR_contract_34
  have f29 : ∀ j : Int, j ≠ c 22 3 6 → c' 29 3 j = c 29 3 j := by intro j hj; rw [← hc]; exact ac_DR_contract_35 hj
  have v30 : c' 30 3 (c 22 3 6) = li := by rw [← hc]; exact ac_DR_contract_36
  have f30 : ∀ j : Int, j ≠ c 22 3 6 → c' 30 3 j = c 30 3 j := by intro j hj; rw [← hc]; exact ac_DR_contract_37 hj
  have v31 : c' 31 3 (c 22 3 6) = no := by rw [← hc]; exact ac_DR_contract_38
  have f31 : ∀ j : Int, j ≠ c 22 3 6 → c' 31 3 j = c 31 3 j := by intro j hj; rw [← hc]; exact ac_DR_contract_39 hj
  have v32 : c' 32 3 (c 22 3 6) = gr := by rw [← hc]; exact ac_DR_contract_40
  have f32 : ∀ j : Int, j ≠ c 22 3 6 → c' 32 3 j = c 32 3 j := by intro j hj; rw [← hc]; exact ac_DR_contract_41 hj
  clear hc
  have x8' : ∀ t, 0 ≤ t → t < c' 1 4 0 → c' 14 4 t = 0 := fun t a b => by rw [e14]; exact x8 t a (by omega)
  refine ⟨⟨by omega, by omega, by omega, by omega, by omega, by omega, by omega, ?_, ?_, ?_, ?_, ?_⟩, ⟨by omega, ?_, ?_, ⟨by omega, ?_⟩, ⟨by omega, fun l a b => by exfalso; omega⟩, ?_⟩, ⟨⟨?_, ?_, ?_, ?_, ?_, ?_, ?_⟩, ?_, ?_, ?_, ?_, ?_, ?_⟩, ⟨⟨?_, ?_, ?_, ?_, ?_, ?_, ?_⟩, ?_, ?_, ?_, ?_, ?_, fun l a b => by exfalso; omega⟩, ?_, ⟨?_, ?_, ?_, ?_, ⟨?_, ?_, ?_, ?_⟩, ⟨by omega, by omega, by omega, by omega, ?_⟩, ?_, ?_, ?_⟩⟩
  · intro q a b
    have o := p8 q a (by omega)
    rw [e23, e24]
    omega
  · intro f a b
    rw [e25]
    exact p9 f a (by omega)
  · intro q hh a b y z
    rw [e26]
    exact p10 q hh a (by omega) y z
  · intro x y a b d e
    have o := p11 x y a (by omega) d (by omega)
    rw [e27]
    omega
  · intro k a b
    by_cases eq : k = c 22 3 6
    · subst eq
      rw [v28, v29, v30, v31, v32, e27, z2, z5]
      exact ⟨h1, h2, h3, h4, h5, h6, h7⟩
    · have o := p12 k a (by omega)
      rw [f28 _ eq, f29 _ eq, f30 _ eq, f31 _ eq, f32 _ eq, e27, z2, z5]
      exact o
  · intro q a b
    have o := s2 q a (by omega)
    unfold Bq roomC
    rw [e3, e4, e5, e23, z0]
    exact o
  · intro k a b
    have o := s3 k a (by omega)
    unfold Bc
    rw [e6, e7, e8]
    exact o
  · intro t a b
    have o := s4 t a (by omega)
    unfold Bt at o ⊢
    rw [e11, e12, e13, e14]
    omega
  · intro k a b
    by_cases eq : k = c 22 3 6
    · subst eq; rw [v10]; decide
    · rw [f10 _ eq]; exact s6 k a (by omega)
  · rw [hNo 0 (by omega), z0]; exact r1a
  · rw [hNo 1 (by omega), z1]; exact r1b
  · rw [hNo 3 (by omega), z2]; exact r1c
  · rw [hNo 4 (by omega), z3]; exact r1d
  · rw [hNo 6 (by omega), z4]; exact r1e
  · rw [hNo 5 (by omega), z5]; exact r1f
  · rw [n0, z6, r1g]
  · intro q a b
    have o := r2 q a (by omega)
    rw [hNo _ (by omega), hNo _ (by omega), e23, e24]
    exact o
  · intro f a b
    have o := r3 f a (by omega)
    rw [hNo _ (by omega), e25]
    exact o
  · intro q hh a b y z
    rw [e26, gain_congr (N := N) (hNo 6 (by omega)) (fun s sa sb i ia ib => hNo _ (by omega))]
    exact r4 q hh a (by omega) y z
  · intro x y a b d e
    rw [e27, bet_congr (N := N) (hNo 5 (by omega)) (fun k ka kb => ⟨hNo _ (by omega), hNo _ (by omega)⟩)]
    exact r5 x y a (by omega) d (by omega)
  · intro k a b
    by_cases eq : k = c 22 3 6
    · subst eq
      rw [v28, v29, v30, v31, v32, ← r1g]
      exact ⟨n1, n2, n3, n4, n5⟩
    · have o := r6 k a (by omega)
      rw [hNo _ (by omega), hNo _ (by omega), hNo _ (by omega), hNo _ (by omega), hNo _ (by omega), f28 _ eq, f29 _ eq, f30 _ eq, f31 _ eq, f32 _ eq]
      exact o
  · refine ⟨by rw [hNo 6 (by omega)]; exact u1, by rw [hNo 5 (by omega)]; exact u2, fun s a b => ?_, fun k a b => ?_⟩
    · rw [hNo 6 (by omega)] at b
      rw [hNo _ (by omega), hNo _ (by omega), hNo _ (by omega), hNo _ (by omega)]
      exact u3 s a b
    · rw [hNo 5 (by omega)] at b
      rw [hNo _ (by omega), hNo _ (by omega)]
      exact u4 k a b
  · rw [hNo 2 (by omega), w0]; exact t1a
  · rw [hNo 10 (by omega), w1]; exact t1b
  · rw [hNo 11 (by omega), w2]; exact t1c
  · rw [hNo 12 (by omega), z5, t1d]
    exact sm_congr (fun i _ _ => (e9 i).symm)
  · rw [hNo 13 (by omega), w3]; exact t1e
  · rw [hNo 7 (by omega), w4]; exact t1f
  · rw [hNo 9 (by omega), w5]; exact t1g
  · intro q a b
    have o := t2 q a (by omega)
    rw [hNo _ (by omega), hNo _ (by omega), hNo _ (by omega), e3, e4, e5]
    exact o
  · intro q a b
    have o := t3 q a (by omega)
    rw [num_none (by decide) x8, num_none (by decide) x8] at o
    rw [num_none (by decide) x8', num_none (by decide) x8', hNo _ (by omega), hNo _ (by omega)]
    exact o
  · intro k a b
    have o := t4 k a (by omega)
    rw [hNo _ (by omega), hNo _ (by omega), hNo _ (by omega), e6, e7, e9]
    exact o
  · intro t a b
    have o := t5 t a (by omega)
    rw [hNo _ (by omega), hNo _ (by omega), hNo _ (by omega), hNo _ (by omega), e11, e12, e13, e14]
    exact o
  · intro k a b
    by_cases eq : k = c 22 3 6
    · subst eq
      rw [v10, ← r1g, hNo _ (by omega)]
      exact x5d _ (by omega) (by omega)
    · have o := t6 k a (by omega)
      rw [hNo _ (by omega), f10 _ eq]
      exact o
  · intro k a b
    have o := h8 k a (by omega)
    rw [hNo _ (by omega), e8]
    exact o
  · intro s a b
    rw [hNo 6 (by omega)] at b
    have o := x1 s a b
    rw [hNo _ (by omega), hNo 3 (by omega)]
    exact o
  · intro k a b
    rw [hNo 5 (by omega)] at b
    have o := x2 k a b
    rw [hNo (86 + 6 * k + 0) (by omega), hNo (86 + 6 * k + 1) (by omega), hNo 3 (by omega)]
    exact o
  · intro q hh a b y z
    rw [e26]
    exact x3 q hh (by omega) b y z
  · intro x y a b d e g
    rw [e27]
    exact x4 x y a b d e (by omega)
  · intro j a b
    rw [hNo 3 (by omega)] at a
    rw [hNo j (by omega)]
    exact x5a j a b
  · intro j a b
    rw [hNo 5 (by omega)] at a
    rw [hNo j (by omega)]
    exact x5b j a b
  · intro j a b
    rw [hNo 7 (by omega)] at a
    rw [hNo j (by omega)]
    exact x5c j a b
  · intro j a b
    rw [n0] at a
    rw [hNo j (by omega)]
    exact x5d j (by omega) b
  · rw [w1, z2, x6e]
    exact sm_congr (fun i _ _ => (e3 i).symm)
  · intro k a b
    rw [e9, e8]
    exact x7 k a (by omega)
  · exact x8'
  · intro q a b
    rw [e3]
    exact x9 q a (by omega)
theorem ac_cab27 {c : Mem} {x y lo ra j : Int} : addB (begC c 4 (c 22 3 5) lo ra) 3 x y 27 3 j = if j = y * 8 + x then c 22 3 5 else if j = x * 8 + y then c 22 3 5 else c 27 3 j := by simp [addB, begC, up3_apply]
theorem ac_DR_cable_1 {c : Mem} {x y lo ra : Int} : (addB (begC c 4 (c 22 3 5) lo ra) 3 x y) 22 3 0 = c 22 3 0 := by simp [addB, begC, up3_apply]
theorem ac_DR_cable_2 {c : Mem} {x y lo ra : Int} : (addB (begC c 4 (c 22 3 5) lo ra) 3 x y) 22 3 1 = c 22 3 1 := by simp [addB, begC, up3_apply]
theorem ac_DR_cable_3 {c : Mem} {x y lo ra : Int} : (addB (begC c 4 (c 22 3 5) lo ra) 3 x y) 22 3 2 = c 22 3 2 := by simp [addB, begC, up3_apply]
theorem ac_DR_cable_4 {c : Mem} {x y lo ra : Int} : (addB (begC c 4 (c 22 3 5) lo ra) 3 x y) 22 3 3 = c 22 3 3 := by simp [addB, begC, up3_apply]
theorem ac_DR_cable_5 {c : Mem} {x y lo ra : Int} : (addB (begC c 4 (c 22 3 5) lo ra) 3 x y) 22 3 4 = c 22 3 4 := by simp [addB, begC, up3_apply]
theorem ac_DR_cable_6 {c : Mem} {x y lo ra : Int} : (addB (begC c 4 (c 22 3 5) lo ra) 3 x y) 22 3 5 = c 22 3 5 + 1 := by simp [addB, begC, up3_apply]
theorem ac_DR_cable_7 {c : Mem} {x y lo ra : Int} : (addB (begC c 4 (c 22 3 5) lo ra) 3 x y) 22 3 6 = c 22 3 6 := by simp [addB, begC, up3_apply]
theorem ac_DR_cable_8 {c : Mem} {x y lo ra : Int} : (addB (begC c 4 (c 22 3 5) lo ra) 3 x y) 0 4 0 = c 0 4 0 := by simp [addB, begC, up3_apply]
theorem ac_DR_cable_9 {c : Mem} {x y lo ra : Int} : (addB (begC c 4 (c 22 3 5) lo ra) 3 x y) 0 4 1 = c 0 4 1 := by simp [addB, begC, up3_apply]
theorem ac_DR_cable_10 {c : Mem} {x y lo ra : Int} : (addB (begC c 4 (c 22 3 5) lo ra) 3 x y) 0 4 2 = c 0 4 2 := by simp [addB, begC, up3_apply]
theorem ac_DR_cable_11 {c : Mem} {x y lo ra : Int} : (addB (begC c 4 (c 22 3 5) lo ra) 3 x y) 0 4 3 = c 0 4 3 := by simp [addB, begC, up3_apply]
theorem ac_DR_cable_12 {c : Mem} {x y lo ra : Int} : (addB (begC c 4 (c 22 3 5) lo ra) 3 x y) 1 4 0 = c 1 4 0 := by simp [addB, begC, up3_apply]
theorem ac_DR_cable_13 {c : Mem} {x y lo ra : Int} : (addB (begC c 4 (c 22 3 5) lo ra) 3 x y) 2 4 0 = c 2 4 0 := by simp [addB, begC, up3_apply]
theorem ac_DR_cable_14 {c : Mem} {x y lo ra : Int} {j : Int} : (addB (begC c 4 (c 22 3 5) lo ra) 3 x y) 3 4 j = c 3 4 j := by simp [addB, begC, up3_apply]
theorem ac_DR_cable_15 {c : Mem} {x y lo ra : Int} {j : Int} : (addB (begC c 4 (c 22 3 5) lo ra) 3 x y) 4 4 j = c 4 4 j := by simp [addB, begC, up3_apply]
theorem ac_DR_cable_16 {c : Mem} {x y lo ra : Int} {j : Int} : (addB (begC c 4 (c 22 3 5) lo ra) 3 x y) 5 4 j = c 5 4 j := by simp [addB, begC, up3_apply]
theorem ac_DR_cable_17 {c : Mem} {x y lo ra : Int} : (addB (begC c 4 (c 22 3 5) lo ra) 3 x y) 6 4 (c 22 3 5) = lo := by simp [addB, begC, up3_apply]
theorem ac_DR_cable_18 {c : Mem} {x y lo ra : Int} {j : Int} (hj : j ≠ c 22 3 5) : (addB (begC c 4 (c 22 3 5) lo ra) 3 x y) 6 4 j = c 6 4 j := by simp [addB, begC, up3_apply, hj]
theorem ac_DR_cable_19 {c : Mem} {x y lo ra : Int} : (addB (begC c 4 (c 22 3 5) lo ra) 3 x y) 7 4 (c 22 3 5) = ra := by simp [addB, begC, up3_apply]
theorem ac_DR_cable_20 {c : Mem} {x y lo ra : Int} {j : Int} (hj : j ≠ c 22 3 5) : (addB (begC c 4 (c 22 3 5) lo ra) 3 x y) 7 4 j = c 7 4 j := by simp [addB, begC, up3_apply, hj]
theorem ac_DR_cable_21 {c : Mem} {x y lo ra : Int} : (addB (begC c 4 (c 22 3 5) lo ra) 3 x y) 8 4 (c 22 3 5) = 0 := by simp [addB, begC, up3_apply]
theorem ac_DR_cable_22 {c : Mem} {x y lo ra : Int} {j : Int} (hj : j ≠ c 22 3 5) : (addB (begC c 4 (c 22 3 5) lo ra) 3 x y) 8 4 j = c 8 4 j := by simp [addB, begC, up3_apply, hj]
theorem ac_DR_cable_23 {c : Mem} {x y lo ra : Int} : (addB (begC c 4 (c 22 3 5) lo ra) 3 x y) 9 4 (c 22 3 5) = 0 := by simp [addB, begC, up3_apply]
theorem ac_DR_cable_24 {c : Mem} {x y lo ra : Int} {j : Int} (hj : j ≠ c 22 3 5) : (addB (begC c 4 (c 22 3 5) lo ra) 3 x y) 9 4 j = c 9 4 j := by simp [addB, begC, up3_apply, hj]
theorem ac_DR_cable_25 {c : Mem} {x y lo ra : Int} {j : Int} : (addB (begC c 4 (c 22 3 5) lo ra) 3 x y) 10 4 j = c 10 4 j := by simp [addB, begC, up3_apply]
theorem ac_DR_cable_26 {c : Mem} {x y lo ra : Int} {j : Int} : (addB (begC c 4 (c 22 3 5) lo ra) 3 x y) 11 4 j = c 11 4 j := by simp [addB, begC, up3_apply]
theorem ac_DR_cable_27 {c : Mem} {x y lo ra : Int} {j : Int} : (addB (begC c 4 (c 22 3 5) lo ra) 3 x y) 12 4 j = c 12 4 j := by simp [addB, begC, up3_apply]
theorem ac_DR_cable_28 {c : Mem} {x y lo ra : Int} {j : Int} : (addB (begC c 4 (c 22 3 5) lo ra) 3 x y) 13 4 j = c 13 4 j := by simp [addB, begC, up3_apply]
theorem ac_DR_cable_29 {c : Mem} {x y lo ra : Int} {j : Int} : (addB (begC c 4 (c 22 3 5) lo ra) 3 x y) 14 4 j = c 14 4 j := by simp [addB, begC, up3_apply]
theorem ac_DR_cable_30 {c : Mem} {x y lo ra : Int} {j : Int} : (addB (begC c 4 (c 22 3 5) lo ra) 3 x y) 23 3 j = c 23 3 j := by simp [addB, begC, up3_apply]
theorem ac_DR_cable_31 {c : Mem} {x y lo ra : Int} {j : Int} : (addB (begC c 4 (c 22 3 5) lo ra) 3 x y) 24 3 j = c 24 3 j := by simp [addB, begC, up3_apply]
theorem ac_DR_cable_32 {c : Mem} {x y lo ra : Int} {j : Int} : (addB (begC c 4 (c 22 3 5) lo ra) 3 x y) 25 3 j = c 25 3 j := by simp [addB, begC, up3_apply]
theorem ac_DR_cable_33 {c : Mem} {x y lo ra : Int} {j : Int} : (addB (begC c 4 (c 22 3 5) lo ra) 3 x y) 26 3 j = c 26 3 j := by simp [addB, begC, up3_apply]
theorem ac_DR_cable_34 {c : Mem} {x y lo ra : Int} {j : Int} : (addB (begC c 4 (c 22 3 5) lo ra) 3 x y) 28 3 j = c 28 3 j := by simp [addB, begC, up3_apply]
theorem ac_DR_cable_35 {c : Mem} {x y lo ra : Int} {j : Int} : (addB (begC c 4 (c 22 3 5) lo ra) 3 x y) 29 3 j = c 29 3 j := by simp [addB, begC, up3_apply]
theorem ac_DR_cable_36 {c : Mem} {x y lo ra : Int} {j : Int} : (addB (begC c 4 (c 22 3 5) lo ra) 3 x y) 30 3 j = c 30 3 j := by simp [addB, begC, up3_apply]
theorem ac_DR_cable_37 {c : Mem} {x y lo ra : Int} {j : Int} : (addB (begC c 4 (c 22 3 5) lo ra) 3 x y) 31 3 j = c 31 3 j := by simp [addB, begC, up3_apply]
theorem ac_DR_cable_38 {c : Mem} {x y lo ra : Int} {j : Int} : (addB (begC c 4 (c 22 3 5) lo ra) 3 x y) 32 3 j = c 32 3 j := by simp [addB, begC, up3_apply]
theorem betF_sym {N : Int → Int} {a b : Int} : ∀ (n : Nat) (c : Int), betF N b a c n = betF N a b c n := by
  intro n
  induction n with
  | zero => intro c; rfl
  | succ n ih =>
    intro c
    unfold betF
    rw [ih (c + 1)]
    by_cases q : (N (86 + 6 * c + 0) = a ∧ N (86 + 6 * c + 1) = b) ∨ (N (86 + 6 * c + 0) = b ∧ N (86 + 6 * c + 1) = a)
    · rw [if_pos q, if_pos (by omega)]
    · rw [if_neg q, if_neg (by omega)]
theorem bet_sym {N : Int → Int} {a b : Int} : betN N b a = betN N a b := betF_sym _ 0
set_option maxHeartbeats 4000000 in
theorem DR_cable {c : Mem} {N N' : Int → Int} {x y lo ra : Int} (h : DRN c N) (hn : c 22 3 5 < 12) (h1 : 0 ≤ x ∧ x < c 22 3 2) (h2 : 0 ≤ y ∧ y < c 22 3 2) (h3 : 0 ≤ lo ∧ lo ≤ 900) (h4 : 1 ≤ ra ∧ ra ≤ 10000) (h6 : x ≠ y) (h7 : c 27 3 (x * 8 + y) = -1) (hN : N' (5) = N 5 + 1 ∧ N' (86 + 6 * N 5 + 0) = x ∧ N' (86 + 6 * N 5 + 1) = y ∧ N' (86 + 6 * N 5 + 2) = lo ∧ N' (86 + 6 * N 5 + 3) = ra) (hNo : ∀ j, (j ≠ 5 ∧ j ≠ 86 + 6 * N 5 + 0 ∧ j ≠ 86 + 6 * N 5 + 1 ∧ j ≠ 86 + 6 * N 5 + 2 ∧ j ≠ 86 + 6 * N 5 + 3) → N' j = N j) : DRN (addB (begC c 4 (c 22 3 5) lo ra) 3 x y) N' := by
  obtain ⟨hP, hB, hR, hS, h8, hX⟩ := h
  obtain ⟨p1, p2, p3, p4, p5, p6, p7, p8, p9, p10, p11, p12⟩ := hP
  obtain ⟨s1, s2, s3, ⟨s4a, s4⟩, ⟨s5a, s5⟩, s6⟩ := hB
  obtain ⟨⟨r1a, r1b, r1c, r1d, r1e, r1f, r1g⟩, r2, r3, r4, r5, r6, r7⟩ := hR
  obtain ⟨⟨t1a, t1b, t1c, t1d, t1e, t1f, t1g⟩, t2, t3, t4, t5, t6, t7⟩ := hS
  obtain ⟨x1, x2, x3, x4, ⟨x5a, x5b, x5c, x5d⟩, ⟨x6a, x6b, x6c, x6d, x6e⟩, x7, x8, x9⟩ := hX
  obtain ⟨u1, u2, u3, u4⟩ := r7
  obtain ⟨n0, n1, n2, n3, n4⟩ := hN
  generalize hc : addB (begC c 4 (c 22 3 5) lo ra) 3 x y = c'
  have z0 : c' 22 3 0 = c 22 3 0 := by rw [← hc]; exact ac_DR_cable_1
  have z1 : c' 22 3 1 = c 22 3 1 := by rw [← hc]; exact ac_DR_cable_2
  have z2 : c' 22 3 2 = c 22 3 2 := by rw [← hc]; exact ac_DR_cable_3
  have z3 : c' 22 3 3 = c 22 3 3 := by rw [← hc]; exact ac_DR_cable_4
  have z4 : c' 22 3 4 = c 22 3 4 := by rw [← hc]; exact ac_DR_cable_5
  have z5 : c' 22 3 5 = c 22 3 5 + 1 := by rw [← hc]; exact ac_DR_cable_6
  have z6 : c' 22 3 6 = c 22 3 6 := by rw [← hc]; exact ac_DR_cable_7
  have w0 : c' 0 4 0 = c 0 4 0 := by rw [← hc]; exact ac_DR_cable_8
  have w1 : c' 0 4 1 = c 0 4 1 := by rw [← hc]; exact ac_DR_cable_9
  have w2 : c' 0 4 2 = c 0 4 2 := by rw [← hc]; exact ac_DR_cable_10
  have w3 : c' 0 4 3 = c 0 4 3 := by rw [← hc]; exact ac_DR_cable_11
  have w4 : c' 1 4 0 = c 1 4 0 := by rw [← hc]; exact ac_DR_cable_12
  have w5 : c' 2 4 0 = c 2 4 0 := by rw [← hc]; exact ac_DR_cable_13
  have e3 : ∀ j : Int, c' 3 4 j = c 3 4 j := by intro j; rw [← hc]; exact ac_DR_cable_14
  have e4 : ∀ j : Int, c' 4 4 j = c 4 4 j := by intro j; rw [← hc]; exact ac_DR_cable_15
  have e5 : ∀ j : Int, c' 5 4 j = c 5 4 j := by intro j; rw [← hc]; exact ac_DR_cable_16
  have v6 : c' 6 4 (c 22 3 5) = lo := by rw [← hc]; exact ac_DR_cable_17
  have f6 : ∀ j : Int, j ≠ c 22 3 5 → c' 6 4 j = c 6 4 j := by intro j hj; rw [← hc]; exact ac_DR_cable_18 hj
  have v7 : c' 7 4 (c 22 3 5) = ra := by rw [← hc]; exact ac_DR_cable_19
  have f7 : ∀ j : Int, j ≠ c 22 3 5 → c' 7 4 j = c 7 4 j := by intro j hj; rw [← hc]; exact ac_DR_cable_20 hj
  have v8 : c' 8 4 (c 22 3 5) = 0 := by rw [← hc]; exact ac_DR_cable_21
  have f8 : ∀ j : Int, j ≠ c 22 3 5 → c' 8 4 j = c 8 4 j := by intro j hj; rw [← hc]; exact ac_DR_cable_22 hj
  have v9 : c' 9 4 (c 22 3 5) = 0 := by rw [← hc]; exact ac_DR_cable_23
  have f9 : ∀ j : Int, j ≠ c 22 3 5 → c' 9 4 j = c 9 4 j := by intro j hj; rw [← hc]; exact ac_DR_cable_24 hj
  have e10 : ∀ j : Int, c' 10 4 j = c 10 4 j := by intro j; rw [← hc]; exact ac_DR_cable_25
  have e11 : ∀ j : Int, c' 11 4 j = c 11 4 j := by intro j; rw [← hc]; exact ac_DR_cable_26
  have e12 : ∀ j : Int, c' 12 4 j = c 12 4 j := by intro j; rw [← hc]; exact ac_DR_cable_27
  have e13 : ∀ j : Int, c' 13 4 j = c 13 4 j := by intro j; rw [← hc]; exact ac_DR_cable_28
  have e14 : ∀ j : Int, c' 14 4 j = c 14 4 j := by intro j; rw [← hc]; exact ac_DR_cable_29
  have e23 : ∀ j : Int, c' 23 3 j = c 23 3 j := by intro j; rw [← hc]; exact ac_DR_cable_30
  have e24 : ∀ j : Int, c' 24 3 j = c 24 3 j := by intro j; rw [← hc]; exact ac_DR_cable_31
  have e25 : ∀ j : Int, c' 25 3 j = c 25 3 j := by intro j; rw [← hc]; exact ac_DR_cable_32
  have e26 : ∀ j : Int, c' 26 3 j = c 26 3 j := by intro j; rw [← hc]; exact ac_DR_cable_33
  have f27 : ∀ u v : Int, 0 ≤ u → u < 8 → 0 ≤ v → v < 8 → c' 27 3 (u * 8 + v) = if (u = x ∧ v = y) ∨ (u = y ∧ v = x) then c 22 3 5 else c 27 3 (u * 8 + v) := by
    intro u v a b d e
    rw [← hc]
    have k1 := ac_cab27 (c := c) (x := x) (y := y) (lo := lo) (ra := ra) (j := u * 8 + v)
    rw [k1]
    by_cases g : (u = x ∧ v = y) ∨ (u = y ∧ v = x)
    · rw [if_pos g]
      by_cases g2 : u * 8 + v = y * 8 + x
      · rw [if_pos g2]
      · rw [if_neg g2, if_pos (by omega)]
    · rw [if_neg g, if_neg (by omega), if_neg (by omega)]
  have e28 : ∀ j : Int, c' 28 3 j = c 28 3 j := by intro j; rw [← hc]; exact ac_DR_cable_34
  have e29 : ∀ j : Int, c' 29 3 j = c 29 3 j := by intro j; rw [← hc]; exact ac_DR_cable_35
  have e30 : ∀ j : Int, c' 30 3 j = c 30 3 j := by intro j; rw [← hc]; exact ac_DR_cable_36
  have e31 : ∀ j : Int, c' 31 3 j = c 31 3 j := by intro j; rw [← hc]; exact ac_DR_cable_37
  have e32 : ∀ j : Int, c' 32 3 j = c 32 3 j := by intro j; rw [← hc]; exact ac_DR_cable_38
  clear hc
  have x8' : ∀ t, 0 ≤ t → t < c' 1 4 0 → c' 14 4 t = 0 := fun t a b => by rw [e14]; exact x8 t a (by omega)
  have h8b : c 27 3 (y * 8 + x) = -1 := by
    rw [← r5 x y h1.1 (by omega) h2.1 (by omega)] at h7
    rw [← r5 y x h2.1 (by omega) h1.1 (by omega), ← h7]
    exact bet_sym
  refine ⟨⟨by omega, by omega, by omega, by omega, by omega, by omega, by omega, ?_, ?_, ?_, ?_, ?_⟩, ⟨by omega, ?_, ?_, ⟨by omega, ?_⟩, ⟨by omega, fun l a b => by exfalso; omega⟩, ?_⟩, ⟨⟨?_, ?_, ?_, ?_, ?_, ?_, ?_⟩, ?_, ?_, ?_, ?_, ?_, ?_⟩, ⟨⟨?_, ?_, ?_, ?_, ?_, ?_, ?_⟩, ?_, ?_, ?_, ?_, ?_, fun l a b => by exfalso; omega⟩, ?_, ⟨?_, ?_, ?_, ?_, ⟨?_, ?_, ?_, ?_⟩, ⟨by omega, by omega, by omega, by omega, ?_⟩, ?_, ?_, ?_⟩⟩
  · intro q a b
    have o := p8 q a (by omega)
    rw [e23, e24]
    omega
  · intro f a b
    rw [e25]
    exact p9 f a (by omega)
  · intro q hh a b y z
    rw [e26]
    exact p10 q hh a (by omega) y z
  · intro u v a b d e
    have o := p11 u v a (by omega) d (by omega)
    rw [f27 u v (by omega) (by omega) (by omega) (by omega)]
    split <;> omega
  · intro k a b
    have o := p12 k a (by omega)
    rw [e28, e29, e30, e31, e32]
    refine ⟨by omega, by omega, o.2.2.1, o.2.2.2.1, o.2.2.2.2.1, o.2.2.2.2.2.1, ?_⟩
    rw [f27 _ _ (by omega) (by omega) (by omega) (by omega)]
    split <;> omega
  · intro q a b
    have o := s2 q a (by omega)
    unfold Bq roomC
    rw [e3, e4, e5, e23, z0]
    exact o
  · intro k a b
    by_cases eq : k = c 22 3 5
    · subst eq
      unfold Bc
      rw [v6, v7, v8]
      omega
    · have o := s3 k a (by omega)
      unfold Bc
      rw [f6 _ eq, f7 _ eq, f8 _ eq]
      exact o
  · intro t a b
    have o := s4 t a (by omega)
    unfold Bt at o ⊢
    rw [e11, e12, e13, e14]
    omega
  · intro k a b
    rw [e10]
    exact s6 k a (by omega)
  · rw [hNo 0 (by omega), z0]; exact r1a
  · rw [hNo 1 (by omega), z1]; exact r1b
  · rw [hNo 3 (by omega), z2]; exact r1c
  · rw [hNo 4 (by omega), z3]; exact r1d
  · rw [hNo 6 (by omega), z4]; exact r1e
  · rw [n0, z5, r1f]
  · rw [hNo 8 (by omega), z6]; exact r1g
  · intro q a b
    have o := r2 q a (by omega)
    rw [hNo _ (by omega), hNo _ (by omega), e23, e24]
    exact o
  · intro f a b
    have o := r3 f a (by omega)
    rw [hNo _ (by omega), e25]
    exact o
  · intro q hh a b y z
    rw [e26, gain_congr (N := N) (hNo 6 (by omega)) (fun s sa sb i ia ib => hNo _ (by omega))]
    exact r4 q hh a (by omega) y z
  · intro u v a b d e
    rw [f27 u v (by omega) (by omega) (by omega) (by omega), bet_more (N := N) u2.1 n0 (fun k ka kb => ⟨hNo _ (by omega), hNo _ (by omega)⟩), r5 u v a (by omega) d (by omega), n1, n2, r1f]
    have o := p11 u v a (by omega) d (by omega)
    by_cases g : (u = x ∧ v = y) ∨ (u = y ∧ v = x)
    · have hz : c 27 3 (u * 8 + v) = -1 := by
        rcases g with g | g
        · rw [g.1, g.2]; exact h7
        · rw [g.1, g.2]; exact h8b
      rw [hz, if_neg (fun z => z rfl), if_pos (by omega), if_pos g]
    · rw [if_neg g, if_neg (show ¬ (x = u ∧ y = v ∨ x = v ∧ y = u) by omega)]
      split <;> omega
  · intro k a b
    have o := r6 k a (by omega)
    rw [hNo _ (by omega), hNo _ (by omega), hNo _ (by omega), hNo _ (by omega), hNo _ (by omega), e28, e29, e30, e31, e32]
    exact o
  · refine ⟨by rw [hNo 6 (by omega)]; exact u1, by rw [n0]; omega, fun s a b => ?_, fun k a b => ?_⟩
    · rw [hNo 6 (by omega)] at b
      rw [hNo _ (by omega), hNo _ (by omega), hNo _ (by omega), hNo _ (by omega)]
      exact u3 s a b
    · rw [n0] at b
      by_cases eq : k = N 5
      · subst eq; rw [n1, n2]; omega
      · rw [hNo _ (by omega), hNo _ (by omega)]
        exact u4 k a (by omega)
  · rw [hNo 2 (by omega), w0]; exact t1a
  · rw [hNo 10 (by omega), w1]; exact t1b
  · rw [hNo 11 (by omega), w2]; exact t1c
  · rw [hNo 12 (by omega), z5, t1d, show (c 22 3 5 + 1).toNat = (c 22 3 5).toNat + 1 by omega, sm_s, show ((c 22 3 5).toNat : Int) = c 22 3 5 by omega, v9, Int.add_zero]
    exact sm_congr (fun i a b => (f9 i (by omega)).symm)
  · rw [hNo 13 (by omega), w3]; exact t1e
  · rw [hNo 7 (by omega), w4]; exact t1f
  · rw [hNo 9 (by omega), w5]; exact t1g
  · intro q a b
    have o := t2 q a (by omega)
    rw [hNo _ (by omega), hNo _ (by omega), hNo _ (by omega), e3, e4, e5]
    exact o
  · intro q a b
    have o := t3 q a (by omega)
    rw [num_none (by decide) x8, num_none (by decide) x8] at o
    rw [num_none (by decide) x8', num_none (by decide) x8', hNo _ (by omega), hNo _ (by omega)]
    exact o
  · intro k a b
    by_cases eq : k = c 22 3 5
    · subst eq
      rw [v6, v7, v9, ← r1f]
      exact ⟨n3, n4, by rw [hNo _ (by omega)]; exact x5b _ (by omega) (by omega)⟩
    · have o := t4 k a (by omega)
      rw [hNo _ (by omega), hNo _ (by omega), hNo _ (by omega), f6 _ eq, f7 _ eq, f9 _ eq]
      exact o
  · intro t a b
    have o := t5 t a (by omega)
    rw [hNo _ (by omega), hNo _ (by omega), hNo _ (by omega), hNo _ (by omega), e11, e12, e13, e14]
    exact o
  · intro k a b
    have o := t6 k a (by omega)
    rw [hNo _ (by omega), e10]
    exact o
  · intro k a b
    by_cases eq : k = c 22 3 5
    · subst eq
      rw [v8, ← r1f, hNo _ (by omega)]
      exact x5b _ (by omega) (by omega)
    · have o := h8 k a (by omega)
      rw [hNo _ (by omega), f8 _ eq]
      exact o
  · intro s a b
    rw [hNo 6 (by omega)] at b
    have o := x1 s a b
    rw [hNo _ (by omega), hNo 3 (by omega)]
    exact o
  · intro k a b
    rw [n0] at b
    by_cases eq : k = N 5
    · subst eq; rw [n1, n2, hNo 3 (by omega)]; omega
    · have o := x2 k a (by omega)
      rw [hNo (86 + 6 * k + 0) (by omega), hNo (86 + 6 * k + 1) (by omega), hNo 3 (by omega)]
      exact o
  · intro q hh a b y z
    rw [e26]
    exact x3 q hh (by omega) b y z
  · intro u v a b d e g
    rw [f27 u v a b d e, if_neg (by omega)]
    exact x4 u v a b d e (by omega)
  · intro j a b
    rw [hNo 3 (by omega)] at a
    rw [hNo j (by omega)]
    exact x5a j a b
  · intro j a b
    rw [n0] at a
    rw [hNo j (by omega)]
    exact x5b j (by omega) b
  · intro j a b
    rw [hNo 7 (by omega)] at a
    rw [hNo j (by omega)]
    exact x5c j a b
  · intro j a b
    rw [hNo 8 (by omega)] at a
    rw [hNo j (by omega)]
    exact x5d j a b
  · rw [w1, z2, x6e]
    exact sm_congr (fun i _ _ => (e3 i).symm)
  · intro k a b
    by_cases eq : k = c 22 3 5
    · subst eq; exact ⟨v9, v8⟩
    · rw [f9 _ eq, f8 _ eq]; exact x7 k a (by omega)
  · exact x8'
  · intro q a b
    rw [e3]
    exact x9 q a (by omega)
set_option maxHeartbeats 4000000 in
theorem DR_curve {c : Mem} {N N' : Int → Int}  (h : DRN c N) (hn : c 22 3 3 < 4) (hN : N' (4) = N 4 + 1) {c' : Mem} (hk : ∀ k, k < 33 → k ≠ 22 → k ≠ 25 → c' k = c k) (z3 : c' 22 3 3 = c 22 3 3 + 1) (h22 : ∀ j, j ≠ 3 → c' 22 3 j = c 22 3 j) (f25 : ∀ f, f < 4 * c 22 3 3 → c' 25 3 f = c 25 3 f) (hv : ∀ f, 4 * c 22 3 3 ≤ f → f < 4 * c 22 3 3 + 4 → N' (14 + f) = c' 25 3 f ∧ 0 ≤ c' 25 3 f ∧ c' 25 3 f ≤ 1000) (hNo : ∀ j, (j ≠ 4 ∧ ¬ (14 + 4 * N 4 ≤ j ∧ j < 14 + 4 * N 4 + 4)) → N' j = N j) : DRN c' N' := by
  obtain ⟨hP, hB, hR, hS, h8, hX⟩ := h
  obtain ⟨p1, p2, p3, p4, p5, p6, p7, p8, p9, p10, p11, p12⟩ := hP
  obtain ⟨s1, s2, s3, ⟨s4a, s4⟩, ⟨s5a, s5⟩, s6⟩ := hB
  obtain ⟨⟨r1a, r1b, r1c, r1d, r1e, r1f, r1g⟩, r2, r3, r4, r5, r6, r7⟩ := hR
  obtain ⟨⟨t1a, t1b, t1c, t1d, t1e, t1f, t1g⟩, t2, t3, t4, t5, t6, t7⟩ := hS
  obtain ⟨x1, x2, x3, x4, ⟨x5a, x5b, x5c, x5d⟩, ⟨x6a, x6b, x6c, x6d, x6e⟩, x7, x8, x9⟩ := hX
  obtain ⟨u1, u2, u3, u4⟩ := r7
  have n0 := hN
  have z0 : c' 22 3 0 = c 22 3 0 := h22 0 (by decide)
  have z1 : c' 22 3 1 = c 22 3 1 := h22 1 (by decide)
  have z2 : c' 22 3 2 = c 22 3 2 := h22 2 (by decide)
  have z4 : c' 22 3 4 = c 22 3 4 := h22 4 (by decide)
  have z5 : c' 22 3 5 = c 22 3 5 := h22 5 (by decide)
  have z6 : c' 22 3 6 = c 22 3 6 := h22 6 (by decide)
  have w0 : c' 0 4 0 = c 0 4 0 := by rw [hk 0 (by decide) (by decide) (by decide)]
  have w1 : c' 0 4 1 = c 0 4 1 := by rw [hk 0 (by decide) (by decide) (by decide)]
  have w2 : c' 0 4 2 = c 0 4 2 := by rw [hk 0 (by decide) (by decide) (by decide)]
  have w3 : c' 0 4 3 = c 0 4 3 := by rw [hk 0 (by decide) (by decide) (by decide)]
  have w4 : c' 1 4 0 = c 1 4 0 := by rw [hk 1 (by decide) (by decide) (by decide)]
  have w5 : c' 2 4 0 = c 2 4 0 := by rw [hk 2 (by decide) (by decide) (by decide)]
  have e3 : ∀ j : Int, c' 3 4 j = c 3 4 j := by intro j; rw [hk 3 (by decide) (by decide) (by decide)]
  have e4 : ∀ j : Int, c' 4 4 j = c 4 4 j := by intro j; rw [hk 4 (by decide) (by decide) (by decide)]
  have e5 : ∀ j : Int, c' 5 4 j = c 5 4 j := by intro j; rw [hk 5 (by decide) (by decide) (by decide)]
  have e6 : ∀ j : Int, c' 6 4 j = c 6 4 j := by intro j; rw [hk 6 (by decide) (by decide) (by decide)]
  have e7 : ∀ j : Int, c' 7 4 j = c 7 4 j := by intro j; rw [hk 7 (by decide) (by decide) (by decide)]
  have e8 : ∀ j : Int, c' 8 4 j = c 8 4 j := by intro j; rw [hk 8 (by decide) (by decide) (by decide)]
  have e9 : ∀ j : Int, c' 9 4 j = c 9 4 j := by intro j; rw [hk 9 (by decide) (by decide) (by decide)]
  have e10 : ∀ j : Int, c' 10 4 j = c 10 4 j := by intro j; rw [hk 10 (by decide) (by decide) (by decide)]
  have e11 : ∀ j : Int, c' 11 4 j = c 11 4 j := by intro j; rw [hk 11 (by decide) (by decide) (by decide)]
  have e12 : ∀ j : Int, c' 12 4 j = c 12 4 j := by intro j; rw [hk 12 (by decide) (by decide) (by decide)]
  have e13 : ∀ j : Int, c' 13 4 j = c 13 4 j := by intro j; rw [hk 13 (by decide) (by decide) (by decide)]
  have e14 : ∀ j : Int, c' 14 4 j = c 14 4 j := by intro j; rw [hk 14 (by decide) (by decide) (by decide)]
  have e23 : ∀ j : Int, c' 23 3 j = c 23 3 j := by intro j; rw [hk 23 (by decide) (by decide) (by decide)]
  have e24 : ∀ j : Int, c' 24 3 j = c 24 3 j := by intro j; rw [hk 24 (by decide) (by decide) (by decide)]
  have e26 : ∀ j : Int, c' 26 3 j = c 26 3 j := by intro j; rw [hk 26 (by decide) (by decide) (by decide)]
  have e27 : ∀ j : Int, c' 27 3 j = c 27 3 j := by intro j; rw [hk 27 (by decide) (by decide) (by decide)]
  have e28 : ∀ j : Int, c' 28 3 j = c 28 3 j := by intro j; rw [hk 28 (by decide) (by decide) (by decide)]
  have e29 : ∀ j : Int, c' 29 3 j = c 29 3 j := by intro j; rw [hk 29 (by decide) (by decide) (by decide)]
  have e30 : ∀ j : Int, c' 30 3 j = c 30 3 j := by intro j; rw [hk 30 (by decide) (by decide) (by decide)]
  have e31 : ∀ j : Int, c' 31 3 j = c 31 3 j := by intro j; rw [hk 31 (by decide) (by decide) (by decide)]
  have e32 : ∀ j : Int, c' 32 3 j = c 32 3 j := by intro j; rw [hk 32 (by decide) (by decide) (by decide)]
  have x8' : ∀ t, 0 ≤ t → t < c' 1 4 0 → c' 14 4 t = 0 := fun t a b => by rw [e14]; exact x8 t a (by omega)
  refine ⟨⟨by omega, by omega, by omega, by omega, by omega, by omega, by omega, ?_, ?_, ?_, ?_, ?_⟩, ⟨by omega, ?_, ?_, ⟨by omega, ?_⟩, ⟨by omega, fun l a b => by exfalso; omega⟩, ?_⟩, ⟨⟨?_, ?_, ?_, ?_, ?_, ?_, ?_⟩, ?_, ?_, ?_, ?_, ?_, ?_⟩, ⟨⟨?_, ?_, ?_, ?_, ?_, ?_, ?_⟩, ?_, ?_, ?_, ?_, ?_, fun l a b => by exfalso; omega⟩, ?_, ⟨?_, ?_, ?_, ?_, ⟨?_, ?_, ?_, ?_⟩, ⟨by omega, by omega, by omega, by omega, ?_⟩, ?_, ?_, ?_⟩⟩
  · intro q a b
    have o := p8 q a (by omega)
    rw [e23, e24]
    omega
  · intro f a b
    by_cases eq : 4 * c 22 3 3 ≤ f
    · exact (hv f eq (by omega)).2
    · rw [f25 f (by omega)]; exact p9 f a (by omega)
  · intro q hh a b y z
    rw [e26]
    exact p10 q hh a (by omega) y z
  · intro x y a b d e
    have o := p11 x y a (by omega) d (by omega)
    rw [e27]
    omega
  · intro k a b
    have o := p12 k a (by omega)
    rw [e28, e29, e30, e31, e32, e27, z2, z5]
    exact o
  · intro q a b
    have o := s2 q a (by omega)
    unfold Bq roomC
    rw [e3, e4, e5, e23, z0]
    exact o
  · intro k a b
    have o := s3 k a (by omega)
    unfold Bc
    rw [e6, e7, e8]
    exact o
  · intro t a b
    have o := s4 t a (by omega)
    unfold Bt at o ⊢
    rw [e11, e12, e13, e14]
    omega
  · intro k a b
    rw [e10]
    exact s6 k a (by omega)
  · rw [hNo 0 (by omega), z0]; exact r1a
  · rw [hNo 1 (by omega), z1]; exact r1b
  · rw [hNo 3 (by omega), z2]; exact r1c
  · rw [n0, z3, r1d]
  · rw [hNo 6 (by omega), z4]; exact r1e
  · rw [hNo 5 (by omega), z5]; exact r1f
  · rw [hNo 8 (by omega), z6]; exact r1g
  · intro q a b
    have o := r2 q a (by omega)
    rw [hNo _ (by omega), hNo _ (by omega), e23, e24]
    exact o
  · intro f a b
    by_cases eq : 4 * c 22 3 3 ≤ f
    · exact (hv f eq (by omega)).1
    · have o := r3 f a (by omega)
      rw [hNo _ (by omega), f25 f (by omega)]; exact o
  · intro q hh a b y z
    rw [e26, gain_congr (N := N) (hNo 6 (by omega)) (fun s sa sb i ia ib => hNo _ (by omega))]
    exact r4 q hh a (by omega) y z
  · intro x y a b d e
    rw [e27, bet_congr (N := N) (hNo 5 (by omega)) (fun k ka kb => ⟨hNo _ (by omega), hNo _ (by omega)⟩)]
    exact r5 x y a (by omega) d (by omega)
  · intro k a b
    have o := r6 k a (by omega)
    rw [hNo _ (by omega), hNo _ (by omega), hNo _ (by omega), hNo _ (by omega), hNo _ (by omega), e28, e29, e30, e31, e32]
    exact o
  · refine ⟨by rw [hNo 6 (by omega)]; exact u1, by rw [hNo 5 (by omega)]; exact u2, fun s a b => ?_, fun k a b => ?_⟩
    · rw [hNo 6 (by omega)] at b
      rw [hNo _ (by omega), hNo _ (by omega), hNo _ (by omega), hNo _ (by omega)]
      exact u3 s a b
    · rw [hNo 5 (by omega)] at b
      rw [hNo _ (by omega), hNo _ (by omega)]
      exact u4 k a b
  · rw [hNo 2 (by omega), w0]; exact t1a
  · rw [hNo 10 (by omega), w1]; exact t1b
  · rw [hNo 11 (by omega), w2]; exact t1c
  · rw [hNo 12 (by omega), z5, t1d]
    exact sm_congr (fun i _ _ => (e9 i).symm)
  · rw [hNo 13 (by omega), w3]; exact t1e
  · rw [hNo 7 (by omega), w4]; exact t1f
  · rw [hNo 9 (by omega), w5]; exact t1g
  · intro q a b
    have o := t2 q a (by omega)
    rw [hNo _ (by omega), hNo _ (by omega), hNo _ (by omega), e3, e4, e5]
    exact o
  · intro q a b
    have o := t3 q a (by omega)
    rw [num_none (by decide) x8, num_none (by decide) x8] at o
    rw [num_none (by decide) x8', num_none (by decide) x8', hNo _ (by omega), hNo _ (by omega)]
    exact o
  · intro k a b
    have o := t4 k a (by omega)
    rw [hNo _ (by omega), hNo _ (by omega), hNo _ (by omega), e6, e7, e9]
    exact o
  · intro t a b
    have o := t5 t a (by omega)
    rw [hNo _ (by omega), hNo _ (by omega), hNo _ (by omega), hNo _ (by omega), e11, e12, e13, e14]
    exact o
  · intro k a b
    have o := t6 k a (by omega)
    rw [hNo _ (by omega), e10]
    exact o
  · intro k a b
    have o := h8 k a (by omega)
    rw [hNo _ (by omega), e8]
    exact o
  · intro s a b
    rw [hNo 6 (by omega)] at b
    have o := x1 s a b
    rw [hNo _ (by omega), hNo 3 (by omega)]
    exact o
  · intro k a b
    rw [hNo 5 (by omega)] at b
    have o := x2 k a b
    rw [hNo (86 + 6 * k + 0) (by omega), hNo (86 + 6 * k + 1) (by omega), hNo 3 (by omega)]
    exact o
  · intro q hh a b y z
    rw [e26]
    exact x3 q hh (by omega) b y z
  · intro x y a b d e g
    rw [e27]
    exact x4 x y a b d e (by omega)
  · intro j a b
    rw [hNo 3 (by omega)] at a
    rw [hNo j (by omega)]
    exact x5a j a b
  · intro j a b
    rw [hNo 5 (by omega)] at a
    rw [hNo j (by omega)]
    exact x5b j a b
  · intro j a b
    rw [hNo 7 (by omega)] at a
    rw [hNo j (by omega)]
    exact x5c j a b
  · intro j a b
    rw [hNo 8 (by omega)] at a
    rw [hNo j (by omega)]
    exact x5d j a b
  · rw [w1, z2, x6e]
    exact sm_congr (fun i _ _ => (e3 i).symm)
  · intro k a b
    rw [e9, e8]
    exact x7 k a (by omega)
  · exact x8'
  · intro q a b
    rw [e3]
    exact x9 q a (by omega)
theorem sunL_26 {p : Nat} {q g : Int} : ∀ (n : Nat) (m : Mem) (h j : Int), sunL m p q g h n 26 p j = m 26 p j + (if q * 24 + h ≤ j ∧ j < q * 24 + h + n then g else 0) := by
  intro n
  induction n with
  | zero => intro m h j; rw [if_neg (by omega)]; show m 26 p j = m 26 p j + 0; omega
  | succ n ih =>
    intro m h j
    show sunL _ _ _ _ _ n 26 p j = _
    rw [ih, up3_apply]
    by_cases e : j = q * 24 + h
    · rw [if_pos ⟨rfl, rfl, e⟩, if_neg (by omega), if_pos (by omega), e]; omega
    · rw [if_neg (fun z => e z.2.2)]
      congr 1
      by_cases y : q * 24 + (h + 1) ≤ j ∧ j < q * 24 + (h + 1) + n
      · rw [if_pos y, if_pos (by omega)]
      · rw [if_neg y, if_neg (by omega)]
theorem gain_more {N N' : Int → Int} {q h : Int} (h6 : 0 ≤ N 6) (e6 : N' 6 = N 6 + 1) (e : ∀ s, 0 ≤ s → s < N 6 → ∀ i, 0 ≤ i → i < 4 → N' (158 + 4 * s + i) = N (158 + 4 * s + i)) : gainN N' q h = gainN N q h + gainT N' q h (N 6) := by
  unfold gainN
  rw [e6, show (N 6 + 1).toNat = (N 6).toNat + 1 by omega, sm_s, show ((N 6).toNat : Int) = N 6 by omega]
  congr 1
  refine sm_congr (fun s a b => ?_)
  unfold gainT
  have e0 := e s a (by omega) 0 (by decide) (by decide)
  have e1 := e s a (by omega) 1 (by decide) (by decide)
  have e2 := e s a (by omega) 2 (by decide) (by decide)
  have e3 := e s a (by omega) 3 (by decide) (by decide)
  rw [Int.add_zero] at e0
  rw [e0, e1, e2, e3]
theorem ac_DR_sun_1 {c : Mem} {q fr to g : Int} : (addU c 3 q fr to g) 22 3 0 = c 22 3 0 := by unfold addU; rw [up3_off (by decide), sunL_k (by decide)]
theorem ac_DR_sun_2 {c : Mem} {q fr to g : Int} : (addU c 3 q fr to g) 22 3 1 = c 22 3 1 := by unfold addU; rw [up3_off (by decide), sunL_k (by decide)]
theorem ac_DR_sun_3 {c : Mem} {q fr to g : Int} : (addU c 3 q fr to g) 22 3 2 = c 22 3 2 := by unfold addU; rw [up3_off (by decide), sunL_k (by decide)]
theorem ac_DR_sun_4 {c : Mem} {q fr to g : Int} : (addU c 3 q fr to g) 22 3 3 = c 22 3 3 := by unfold addU; rw [up3_off (by decide), sunL_k (by decide)]
theorem ac_DR_sun_5 {c : Mem} {q fr to g : Int} : (addU c 3 q fr to g) 22 3 4 = c 22 3 4 + 1 := by unfold addU; rw [up3_at, sunL_k (by decide)]
theorem ac_DR_sun_6 {c : Mem} {q fr to g : Int} : (addU c 3 q fr to g) 22 3 5 = c 22 3 5 := by unfold addU; rw [up3_off (by decide), sunL_k (by decide)]
theorem ac_DR_sun_7 {c : Mem} {q fr to g : Int} : (addU c 3 q fr to g) 22 3 6 = c 22 3 6 := by unfold addU; rw [up3_off (by decide), sunL_k (by decide)]
theorem ac_DR_sun_8 {c : Mem} {q fr to g : Int} : (addU c 3 q fr to g) 0 4 0 = c 0 4 0 := by rw [addU_k (by decide)]
theorem ac_DR_sun_9 {c : Mem} {q fr to g : Int} : (addU c 3 q fr to g) 0 4 1 = c 0 4 1 := by rw [addU_k (by decide)]
theorem ac_DR_sun_10 {c : Mem} {q fr to g : Int} : (addU c 3 q fr to g) 0 4 2 = c 0 4 2 := by rw [addU_k (by decide)]
theorem ac_DR_sun_11 {c : Mem} {q fr to g : Int} : (addU c 3 q fr to g) 0 4 3 = c 0 4 3 := by rw [addU_k (by decide)]
theorem ac_DR_sun_12 {c : Mem} {q fr to g : Int} : (addU c 3 q fr to g) 1 4 0 = c 1 4 0 := by rw [addU_k (by decide)]
theorem ac_DR_sun_13 {c : Mem} {q fr to g : Int} : (addU c 3 q fr to g) 2 4 0 = c 2 4 0 := by rw [addU_k (by decide)]
theorem ac_DR_sun_14 {c : Mem} {q fr to g : Int} {j : Int} : (addU c 3 q fr to g) 3 4 j = c 3 4 j := by rw [addU_k (by decide)]
theorem ac_DR_sun_15 {c : Mem} {q fr to g : Int} {j : Int} : (addU c 3 q fr to g) 4 4 j = c 4 4 j := by rw [addU_k (by decide)]
theorem ac_DR_sun_16 {c : Mem} {q fr to g : Int} {j : Int} : (addU c 3 q fr to g) 5 4 j = c 5 4 j := by rw [addU_k (by decide)]
theorem ac_DR_sun_17 {c : Mem} {q fr to g : Int} {j : Int} : (addU c 3 q fr to g) 6 4 j = c 6 4 j := by rw [addU_k (by decide)]
theorem ac_DR_sun_18 {c : Mem} {q fr to g : Int} {j : Int} : (addU c 3 q fr to g) 7 4 j = c 7 4 j := by rw [addU_k (by decide)]
theorem ac_DR_sun_19 {c : Mem} {q fr to g : Int} {j : Int} : (addU c 3 q fr to g) 8 4 j = c 8 4 j := by rw [addU_k (by decide)]
theorem ac_DR_sun_20 {c : Mem} {q fr to g : Int} {j : Int} : (addU c 3 q fr to g) 9 4 j = c 9 4 j := by rw [addU_k (by decide)]
theorem ac_DR_sun_21 {c : Mem} {q fr to g : Int} {j : Int} : (addU c 3 q fr to g) 10 4 j = c 10 4 j := by rw [addU_k (by decide)]
theorem ac_DR_sun_22 {c : Mem} {q fr to g : Int} {j : Int} : (addU c 3 q fr to g) 11 4 j = c 11 4 j := by rw [addU_k (by decide)]
theorem ac_DR_sun_23 {c : Mem} {q fr to g : Int} {j : Int} : (addU c 3 q fr to g) 12 4 j = c 12 4 j := by rw [addU_k (by decide)]
theorem ac_DR_sun_24 {c : Mem} {q fr to g : Int} {j : Int} : (addU c 3 q fr to g) 13 4 j = c 13 4 j := by rw [addU_k (by decide)]
theorem ac_DR_sun_25 {c : Mem} {q fr to g : Int} {j : Int} : (addU c 3 q fr to g) 14 4 j = c 14 4 j := by rw [addU_k (by decide)]
theorem ac_DR_sun_26 {c : Mem} {q fr to g : Int} {j : Int} : (addU c 3 q fr to g) 23 3 j = c 23 3 j := by rw [addU_k (by decide)]
theorem ac_DR_sun_27 {c : Mem} {q fr to g : Int} {j : Int} : (addU c 3 q fr to g) 24 3 j = c 24 3 j := by rw [addU_k (by decide)]
theorem ac_DR_sun_28 {c : Mem} {q fr to g : Int} {j : Int} : (addU c 3 q fr to g) 25 3 j = c 25 3 j := by rw [addU_k (by decide)]
theorem ac_DR_sun_29 {c : Mem} {q fr to g : Int} {j : Int} : (addU c 3 q fr to g) 27 3 j = c 27 3 j := by rw [addU_k (by decide)]
theorem ac_DR_sun_30 {c : Mem} {q fr to g : Int} {j : Int} : (addU c 3 q fr to g) 28 3 j = c 28 3 j := by rw [addU_k (by decide)]
theorem ac_DR_sun_31 {c : Mem} {q fr to g : Int} {j : Int} : (addU c 3 q fr to g) 29 3 j = c 29 3 j := by rw [addU_k (by decide)]
theorem ac_DR_sun_32 {c : Mem} {q fr to g : Int} {j : Int} : (addU c 3 q fr to g) 30 3 j = c 30 3 j := by rw [addU_k (by decide)]
theorem ac_DR_sun_33 {c : Mem} {q fr to g : Int} {j : Int} : (addU c 3 q fr to g) 31 3 j = c 31 3 j := by rw [addU_k (by decide)]
theorem ac_DR_sun_34 {c : Mem} {q fr to g : Int} {j : Int} : (addU c 3 q fr to g) 32 3 j = c 32 3 j := by rw [addU_k (by decide)]
set_option maxHeartbeats 4000000 in
theorem DR_sun {c : Mem} {N N' : Int → Int} {q fr to g : Int} (h : DRN c N) (hn : c 22 3 4 < 12) (h1 : 0 ≤ q ∧ q < c 22 3 2) (h2 : 0 ≤ fr ∧ fr ≤ to) (h3 : to < 24) (h4 : 1 ≤ g ∧ g ≤ 10000) (hN : N' (6) = N 6 + 1 ∧ N' (158 + 4 * N 6 + 0) = q ∧ N' (158 + 4 * N 6 + 1) = fr ∧ N' (158 + 4 * N 6 + 2) = to ∧ N' (158 + 4 * N 6 + 3) = g) (hNo : ∀ j, (j ≠ 6 ∧ j ≠ 158 + 4 * N 6 + 0 ∧ j ≠ 158 + 4 * N 6 + 1 ∧ j ≠ 158 + 4 * N 6 + 2 ∧ j ≠ 158 + 4 * N 6 + 3) → N' j = N j) : DRN (addU c 3 q fr to g) N' := by
  obtain ⟨hP, hB, hR, hS, h8, hX⟩ := h
  obtain ⟨p1, p2, p3, p4, p5, p6, p7, p8, p9, p10, p11, p12⟩ := hP
  obtain ⟨s1, s2, s3, ⟨s4a, s4⟩, ⟨s5a, s5⟩, s6⟩ := hB
  obtain ⟨⟨r1a, r1b, r1c, r1d, r1e, r1f, r1g⟩, r2, r3, r4, r5, r6, r7⟩ := hR
  obtain ⟨⟨t1a, t1b, t1c, t1d, t1e, t1f, t1g⟩, t2, t3, t4, t5, t6, t7⟩ := hS
  obtain ⟨x1, x2, x3, x4, ⟨x5a, x5b, x5c, x5d⟩, ⟨x6a, x6b, x6c, x6d, x6e⟩, x7, x8, x9⟩ := hX
  obtain ⟨u1, u2, u3, u4⟩ := r7
  obtain ⟨n0, n1, n2, n3, n4⟩ := hN
  generalize hc : addU c 3 q fr to g = c'
  have z0 : c' 22 3 0 = c 22 3 0 := by rw [← hc]; exact ac_DR_sun_1
  have z1 : c' 22 3 1 = c 22 3 1 := by rw [← hc]; exact ac_DR_sun_2
  have z2 : c' 22 3 2 = c 22 3 2 := by rw [← hc]; exact ac_DR_sun_3
  have z3 : c' 22 3 3 = c 22 3 3 := by rw [← hc]; exact ac_DR_sun_4
  have z4 : c' 22 3 4 = c 22 3 4 + 1 := by rw [← hc]; exact ac_DR_sun_5
  have z5 : c' 22 3 5 = c 22 3 5 := by rw [← hc]; exact ac_DR_sun_6
  have z6 : c' 22 3 6 = c 22 3 6 := by rw [← hc]; exact ac_DR_sun_7
  have w0 : c' 0 4 0 = c 0 4 0 := by rw [← hc]; exact ac_DR_sun_8
  have w1 : c' 0 4 1 = c 0 4 1 := by rw [← hc]; exact ac_DR_sun_9
  have w2 : c' 0 4 2 = c 0 4 2 := by rw [← hc]; exact ac_DR_sun_10
  have w3 : c' 0 4 3 = c 0 4 3 := by rw [← hc]; exact ac_DR_sun_11
  have w4 : c' 1 4 0 = c 1 4 0 := by rw [← hc]; exact ac_DR_sun_12
  have w5 : c' 2 4 0 = c 2 4 0 := by rw [← hc]; exact ac_DR_sun_13
  have e3 : ∀ j : Int, c' 3 4 j = c 3 4 j := by intro j; rw [← hc]; exact ac_DR_sun_14
  have e4 : ∀ j : Int, c' 4 4 j = c 4 4 j := by intro j; rw [← hc]; exact ac_DR_sun_15
  have e5 : ∀ j : Int, c' 5 4 j = c 5 4 j := by intro j; rw [← hc]; exact ac_DR_sun_16
  have e6 : ∀ j : Int, c' 6 4 j = c 6 4 j := by intro j; rw [← hc]; exact ac_DR_sun_17
  have e7 : ∀ j : Int, c' 7 4 j = c 7 4 j := by intro j; rw [← hc]; exact ac_DR_sun_18
  have e8 : ∀ j : Int, c' 8 4 j = c 8 4 j := by intro j; rw [← hc]; exact ac_DR_sun_19
  have e9 : ∀ j : Int, c' 9 4 j = c 9 4 j := by intro j; rw [← hc]; exact ac_DR_sun_20
  have e10 : ∀ j : Int, c' 10 4 j = c 10 4 j := by intro j; rw [← hc]; exact ac_DR_sun_21
  have e11 : ∀ j : Int, c' 11 4 j = c 11 4 j := by intro j; rw [← hc]; exact ac_DR_sun_22
  have e12 : ∀ j : Int, c' 12 4 j = c 12 4 j := by intro j; rw [← hc]; exact ac_DR_sun_23
  have e13 : ∀ j : Int, c' 13 4 j = c 13 4 j := by intro j; rw [← hc]; exact ac_DR_sun_24
  have e14 : ∀ j : Int, c' 14 4 j = c 14 4 j := by intro j; rw [← hc]; exact ac_DR_sun_25
  have e23 : ∀ j : Int, c' 23 3 j = c 23 3 j := by intro j; rw [← hc]; exact ac_DR_sun_26
  have e24 : ∀ j : Int, c' 24 3 j = c 24 3 j := by intro j; rw [← hc]; exact ac_DR_sun_27
  have e25 : ∀ j : Int, c' 25 3 j = c 25 3 j := by intro j; rw [← hc]; exact ac_DR_sun_28
  have f26 : ∀ u hh : Int, 0 ≤ u → u < 8 → 0 ≤ hh → hh < 24 → c' 26 3 (u * 24 + hh) = c 26 3 (u * 24 + hh) + (if u = q ∧ fr ≤ hh ∧ hh ≤ to then g else 0) := by
    intro u hh a b d e
    rw [← hc]
    have k1 : addU c 3 q fr to g 26 3 (u * 24 + hh) = sunL c 3 q g fr (to - fr + 1).toNat 26 3 (u * 24 + hh) := by unfold addU; rw [up3_k (by decide)]
    rw [k1, sunL_26 (to - fr + 1).toNat c fr (u * 24 + hh)]
    congr 1
    by_cases y : u = q ∧ fr ≤ hh ∧ hh ≤ to
    · rw [if_pos y, if_pos (by omega)]
    · rw [if_neg y, if_neg (by omega)]
  have e27 : ∀ j : Int, c' 27 3 j = c 27 3 j := by intro j; rw [← hc]; exact ac_DR_sun_29
  have e28 : ∀ j : Int, c' 28 3 j = c 28 3 j := by intro j; rw [← hc]; exact ac_DR_sun_30
  have e29 : ∀ j : Int, c' 29 3 j = c 29 3 j := by intro j; rw [← hc]; exact ac_DR_sun_31
  have e30 : ∀ j : Int, c' 30 3 j = c 30 3 j := by intro j; rw [← hc]; exact ac_DR_sun_32
  have e31 : ∀ j : Int, c' 31 3 j = c 31 3 j := by intro j; rw [← hc]; exact ac_DR_sun_33
  have e32 : ∀ j : Int, c' 32 3 j = c 32 3 j := by intro j; rw [← hc]; exact ac_DR_sun_34
  clear hc
  have x8' : ∀ t, 0 ≤ t → t < c' 1 4 0 → c' 14 4 t = 0 := fun t a b => by rw [e14]; exact x8 t a (by omega)
  have n1' : N' (158 + 4 * N 6) = q := by rw [← n1, Int.add_zero]
  have hU : SU N' := by
    refine ⟨by rw [n0]; omega, by rw [hNo 5 (by omega)]; exact u2, fun s a b => ?_, fun k a b => ?_⟩
    · rw [n0] at b
      by_cases eq : s = N 6
      · subst eq; rw [n1', n2, n3, n4]; omega
      · rw [hNo _ (by omega), hNo _ (by omega), hNo _ (by omega), hNo _ (by omega)]
        exact u3 s a (by omega)
    · rw [hNo 5 (by omega)] at b
      rw [hNo _ (by omega), hNo _ (by omega)]
      exact u4 k a b
  have gg : ∀ u hh : Int, 0 ≤ u → u < c 22 3 2 → 0 ≤ hh → hh < 24 → gainN N' u hh = c' 26 3 (u * 24 + hh) := by
    intro u hh a b y z
    rw [f26 u hh a (by omega) y z, gain_more (N := N) u1.1 n0 (fun s sa sb i ia ib => hNo _ (by omega)), r4 u hh a (by omega) y z]
    unfold gainT
    rw [n1', n2, n3, n4]
    congr 1
    by_cases w : u = q ∧ fr ≤ hh ∧ hh ≤ to
    · rw [if_pos w, if_pos (by omega)]
    · rw [if_neg w, if_neg (by omega)]
  refine ⟨⟨by omega, by omega, by omega, by omega, by omega, by omega, by omega, ?_, ?_, ?_, ?_, ?_⟩, ⟨by omega, ?_, ?_, ⟨by omega, ?_⟩, ⟨by omega, fun l a b => by exfalso; omega⟩, ?_⟩, ⟨⟨?_, ?_, ?_, ?_, ?_, ?_, ?_⟩, ?_, ?_, ?_, ?_, ?_, ?_⟩, ⟨⟨?_, ?_, ?_, ?_, ?_, ?_, ?_⟩, ?_, ?_, ?_, ?_, ?_, fun l a b => by exfalso; omega⟩, ?_, ⟨?_, ?_, ?_, ?_, ⟨?_, ?_, ?_, ?_⟩, ⟨by omega, by omega, by omega, by omega, ?_⟩, ?_, ?_, ?_⟩⟩
  · intro q a b
    have o := p8 q a (by omega)
    rw [e23, e24]
    omega
  · intro f a b
    rw [e25]
    exact p9 f a (by omega)
  · intro u hh a b y z
    have g := gain_b (q := u) (h := hh) hU
    rw [← gg u hh a (by omega) y z]
    rw [n0] at g
    omega
  · intro x y a b d e
    have o := p11 x y a (by omega) d (by omega)
    rw [e27]
    omega
  · intro k a b
    have o := p12 k a (by omega)
    rw [e28, e29, e30, e31, e32, e27, z2, z5]
    exact o
  · intro q a b
    have o := s2 q a (by omega)
    unfold Bq roomC
    rw [e3, e4, e5, e23, z0]
    exact o
  · intro k a b
    have o := s3 k a (by omega)
    unfold Bc
    rw [e6, e7, e8]
    exact o
  · intro t a b
    have o := s4 t a (by omega)
    unfold Bt at o ⊢
    rw [e11, e12, e13, e14]
    omega
  · intro k a b
    rw [e10]
    exact s6 k a (by omega)
  · rw [hNo 0 (by omega), z0]; exact r1a
  · rw [hNo 1 (by omega), z1]; exact r1b
  · rw [hNo 3 (by omega), z2]; exact r1c
  · rw [hNo 4 (by omega), z3]; exact r1d
  · rw [n0, z4, r1e]
  · rw [hNo 5 (by omega), z5]; exact r1f
  · rw [hNo 8 (by omega), z6]; exact r1g
  · intro q a b
    have o := r2 q a (by omega)
    rw [hNo _ (by omega), hNo _ (by omega), e23, e24]
    exact o
  · intro f a b
    have o := r3 f a (by omega)
    rw [hNo _ (by omega), e25]
    exact o
  · intro u hh a b y z
    exact gg u hh a (by omega) y z
  · intro x y a b d e
    rw [e27, bet_congr (N := N) (hNo 5 (by omega)) (fun k ka kb => ⟨hNo _ (by omega), hNo _ (by omega)⟩)]
    exact r5 x y a (by omega) d (by omega)
  · intro k a b
    have o := r6 k a (by omega)
    rw [hNo _ (by omega), hNo _ (by omega), hNo _ (by omega), hNo _ (by omega), hNo _ (by omega), e28, e29, e30, e31, e32]
    exact o
  · exact hU
  · rw [hNo 2 (by omega), w0]; exact t1a
  · rw [hNo 10 (by omega), w1]; exact t1b
  · rw [hNo 11 (by omega), w2]; exact t1c
  · rw [hNo 12 (by omega), z5, t1d]
    exact sm_congr (fun i _ _ => (e9 i).symm)
  · rw [hNo 13 (by omega), w3]; exact t1e
  · rw [hNo 7 (by omega), w4]; exact t1f
  · rw [hNo 9 (by omega), w5]; exact t1g
  · intro q a b
    have o := t2 q a (by omega)
    rw [hNo _ (by omega), hNo _ (by omega), hNo _ (by omega), e3, e4, e5]
    exact o
  · intro q a b
    have o := t3 q a (by omega)
    rw [num_none (by decide) x8, num_none (by decide) x8] at o
    rw [num_none (by decide) x8', num_none (by decide) x8', hNo _ (by omega), hNo _ (by omega)]
    exact o
  · intro k a b
    have o := t4 k a (by omega)
    rw [hNo _ (by omega), hNo _ (by omega), hNo _ (by omega), e6, e7, e9]
    exact o
  · intro t a b
    have o := t5 t a (by omega)
    rw [hNo _ (by omega), hNo _ (by omega), hNo _ (by omega), hNo _ (by omega), e11, e12, e13, e14]
    exact o
  · intro k a b
    have o := t6 k a (by omega)
    rw [hNo _ (by omega), e10]
    exact o
  · intro k a b
    have o := h8 k a (by omega)
    rw [hNo _ (by omega), e8]
    exact o
  · intro s a b
    rw [n0] at b
    by_cases eq : s = N 6
    · subst eq; rw [n1', hNo 3 (by omega)]; omega
    · have o := x1 s a (by omega)
      rw [hNo _ (by omega), hNo 3 (by omega)]; exact o
  · intro k a b
    rw [hNo 5 (by omega)] at b
    have o := x2 k a b
    rw [hNo (86 + 6 * k + 0) (by omega), hNo (86 + 6 * k + 1) (by omega), hNo 3 (by omega)]
    exact o
  · intro u hh a b y z
    rw [f26 u hh (by omega) (by omega) y z, if_neg (by omega), Int.add_zero]
    exact x3 u hh (by omega) b y z
  · intro x y a b d e g
    rw [e27]
    exact x4 x y a b d e (by omega)
  · intro j a b
    rw [hNo 3 (by omega)] at a
    rw [hNo j (by omega)]
    exact x5a j a b
  · intro j a b
    rw [hNo 5 (by omega)] at a
    rw [hNo j (by omega)]
    exact x5b j a b
  · intro j a b
    rw [hNo 7 (by omega)] at a
    rw [hNo j (by omega)]
    exact x5c j a b
  · intro j a b
    rw [hNo 8 (by omega)] at a
    rw [hNo j (by omega)]
    exact x5d j a b
  · rw [w1, z2, x6e]
    exact sm_congr (fun i _ _ => (e3 i).symm)
  · intro k a b
    rw [e9, e8]
    exact x7 k a (by omega)
  · exact x8'
  · intro q a b
    rw [e3]
    exact x9 q a (by omega)
theorem wd_len {T : Int → Int} {a b : Int} {i : Nat} (h : wdB T a b i = true) : b - a = sL i := by
  unfold wdB at h
  split at h
  · assumption
  · exact absurd h (by decide)
theorem wd_1st {T : Int → Int} {a b : Int} {i : Nat} (hi : i < 7) (h : wdB T a b i = true) : T a = sB i 0 := by
  have hp : ∃ n, (sL i).toNat = n + 1 := by
    match i, hi with
    | 0, _ => exact ⟨4, rfl⟩
    | 1, _ => exact ⟨4, rfl⟩
    | 2, _ => exact ⟨3, rfl⟩
    | 3, _ => exact ⟨4, rfl⟩
    | 4, _ => exact ⟨2, rfl⟩
    | 5, _ => exact ⟨3, rfl⟩
    | 6, _ => exact ⟨7, rfl⟩
    | n + 7, hi => exact absurd hi (by omega)
  obtain ⟨n, hn⟩ := hp
  unfold wdB at h
  split at h
  · rw [hn] at h
    have h2 : (if T (a + (0 : Nat)) = sB i 0 then wF T a i n 1 else false) = true := h
    split at h2
    · rename_i g
      have e : a + ((0 : Nat) : Int) = a := by omega
      rw [e] at g
      exact g
    · exact absurd h2 (by decide)
  · exact absurd h (by decide)
/-- the draft at its start -/
theorem DR_init {c : Mem} {N : Int → Int} (z : ∀ j, 2 ≤ j → j < 7 → c 22 3 j = 0) (z0 : ∀ j, 0 ≤ j → j < 4 → c 0 4 j = 0) (z1 : c 1 4 0 = 0) (z2 : c 2 4 0 = 0) (z26 : ∀ j, c 26 3 j = 0) (z27 : ∀ j, c 27 3 j = -1) (h0 : N 0 = c 22 3 0) (h1 : N 1 = c 22 3 1) (b0 : 1 ≤ c 22 3 0 ∧ c 22 3 0 ≤ 10000) (b1 : 1 ≤ c 22 3 1 ∧ c 22 3 1 ≤ 10000) (hN : ∀ j, 2 ≤ j → j < 430 → N j = 0) : DRN c N := by
  have p2 := z 2 (by decide) (by decide)
  have p3 := z 3 (by decide) (by decide)
  have p4 := z 4 (by decide) (by decide)
  have p5 := z 5 (by decide) (by decide)
  have p6 := z 6 (by decide) (by decide)
  have t0 := z0 0 (by decide) (by decide)
  have t1 := z0 1 (by decide) (by decide)
  have t2 := z0 2 (by decide) (by decide)
  have t3 := z0 3 (by decide) (by decide)
  have k2 := hN 2 (by decide) (by decide)
  have k3 := hN 3 (by decide) (by decide)
  have k4 := hN 4 (by decide) (by decide)
  have k5 := hN 5 (by decide) (by decide)
  have k6 := hN 6 (by decide) (by decide)
  have k7 := hN 7 (by decide) (by decide)
  have k8 := hN 8 (by decide) (by decide)
  have k9 := hN 9 (by decide) (by decide)
  have k10 := hN 10 (by decide) (by decide)
  have k11 := hN 11 (by decide) (by decide)
  have k12 := hN 12 (by decide) (by decide)
  have k13 := hN 13 (by decide) (by decide)
  refine ⟨⟨b0, b1, by omega, by omega, by omega, by omega, by omega, fun q a b => by exfalso; omega, fun f a b => by exfalso; omega, fun q hh a b => by exfalso; omega, fun x y a b => by exfalso; omega, fun k a b => by exfalso; omega⟩,
    ⟨by omega, fun q a b => by exfalso; omega, fun k a b => by exfalso; omega, ⟨by omega, fun t a b => by exfalso; omega⟩, ⟨by omega, fun l a b => by exfalso; omega⟩, fun k a b => by exfalso; omega⟩,
    ⟨⟨h0, h1, by omega, by omega, by omega, by omega, by omega⟩, fun q a b => by exfalso; omega, fun f a b => by exfalso; omega, fun q hh a b => by exfalso; omega, fun x y a b => by exfalso; omega, fun k a b => by exfalso; omega, ⟨by omega, by omega, fun s a b => by exfalso; omega, fun k a b => by exfalso; omega⟩⟩,
    ⟨⟨by omega, by omega, by omega, ?_, by omega, by omega, by omega⟩, fun q a b => by exfalso; omega, fun q a b => by exfalso; omega, fun k a b => by exfalso; omega, fun t a b => by exfalso; omega, fun k a b => by exfalso; omega, fun l a b => by exfalso; omega⟩,
    fun k a b => by exfalso; omega, fun s a b => by exfalso; omega, fun k a b => by exfalso; omega, fun q hh _ _ _ _ => z26 _, fun a b _ _ _ _ _ => z27 _, ⟨fun j a b => hN j (by omega) (by omega), fun j a b => hN j (by omega) (by omega), fun j a b => hN j (by omega) (by omega), fun j a b => hN j (by omega) (by omega)⟩, ⟨t0, z2, t2, t3, ?_⟩, fun k a b => by exfalso; omega, fun t a b => by exfalso; omega, fun q a b => by exfalso; omega⟩
  · rw [k12, p5]; rfl
  · rw [t1, p2]; rfl
theorem ST_draft {m : Mem} {N : Int → Int} {K : Nat} (h : DRN m N) : ST m 3 4 N K := by
  obtain ⟨h1, h2, h3, h4, h5, hx⟩ := h
  have z := hx.2.2.2.2.2.1
  have z9 := hx.2.2.2.2.2.2.1
  have z3 := hx.2.2.2.2.2.2.2.2
  have n8 := h1.2.2.1
  have n12 := h1.2.2.2.2.2.1
  have s9 : sm (m 9 4) (m 22 3 5).toNat = 0 := sm_zero (fun i a b => (z9 i a (by omega)).1)
  have b3 := sm_b (f := m 3 4) (n := (m 22 3 2).toNat) (a := 0) (b := 100000) (fun i a b => ⟨(h2.2.1 i a (by omega)).1.1, z3 i a (by omega)⟩)
  refine ⟨h1, h2, h3, h4, h5, ⟨?_, by omega, by omega, fun i a b => by rw [(z9 i a b).1]; decide⟩, by omega, ?_⟩
  · rw [s9]; omega
  · have := b3.2
    have e : ((m 22 3 2).toNat : Int) = m 22 3 2 := by omega
    rw [z.1, z.2.2.2.2]
    have : ((m 22 3 2).toNat : Int) * 100000 ≤ 800000 := by omega
    omega
