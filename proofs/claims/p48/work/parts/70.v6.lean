/-! what would come, on both sides -/
theorem in_S {k : Nat} (h : k < 22) : k ∈ inS := by
  have : k = 0 ∨ k = 1 ∨ k = 2 ∨ k = 3 ∨ k = 4 ∨ k = 5 ∨ k = 6 ∨ k = 7 ∨ k = 8 ∨ k = 9 ∨ k = 10 ∨ k = 11 ∨ k = 12 ∨ k = 13 ∨ k = 14 ∨ k = 15 ∨ k = 16 ∨ k = 17 ∨ k = 18 ∨ k = 19 ∨ k = 20 ∨ k = 21 := by omega
  rcases this with rfl | rfl | rfl | rfl | rfl | rfl | rfl | rfl | rfl | rfl | rfl | rfl | rfl | rfl | rfl | rfl | rfl | rfl | rfl | rfl | rfl | rfl <;> decide
theorem nin_S {k : Nat} (h : 22 ≤ k) : k ∉ inS := fun q => by
  unfold inS at q
  simp only [List.mem_cons, List.not_mem_nil, or_false] at q
  omega
theorem in_P {k : Nat} (h : 22 ≤ k) (h2 : k < 33) : k ∈ inP := by
  have : k = 22 ∨ k = 23 ∨ k = 24 ∨ k = 25 ∨ k = 26 ∨ k = 27 ∨ k = 28 ∨ k = 29 ∨ k = 30 ∨ k = 31 ∨ k = 32 := by omega
  rcases this with rfl | rfl | rfl | rfl | rfl | rfl | rfl | rfl | rfl | rfl | rfl <;> decide
theorem nin_P {k : Nat} (h : k < 22 ∨ 33 ≤ k) : k ∉ inP := fun q => by
  unfold inP at q
  simp only [List.mem_cons, List.not_mem_nil, or_false] at q
  omega
theorem cpS_hi {m : Mem} {a b k : Nat} (h : 22 ≤ k) : cpS m a b k = m k := cpS_k (nin_S h)
theorem cpS_lo {m : Mem} {a b k : Nat} (h : k < 22) : cpS m a b k b = m k a := cpS_at (in_S h)
theorem cpP_hi {m : Mem} {a b k : Nat} (h : k < 22 ∨ 33 ≤ k) : cpP m a b k = m k := cpP_k (nin_P h)
theorem cpP_lo {m : Mem} {a b k : Nat} (h : 22 ≤ k) (h2 : k < 33) : cpP m a b k b = m k a := cpP_at (in_P h h2)
/-- the state copied, with the same plan -/
theorem ST.cp {m : Mem} {p a b : Nat} {N : Int → Int} {K : Nat} (h : ST m p a N K) : ST (cpS m a b) p b N K :=
  h.mv (fun k g => cpS_lo g) (fun k g1 g2 => by rw [cpS_hi g1])
theorem V_miss {p : Nat} (q w : Int) : ∀ (n : Nat) (c : Mem) (N : Int → Int) (k : Int), BP c 0 → BS c 0 1 → RP c 0 N → RS c 0 1 N → 0 ≤ q → q < c 22 0 2 → c 0 1 0 + n ≤ 11000 → miN c q w k n = msN N q w k n := by
  intro n
  induction n with
  | zero => intro c N k _ _ _ _ _ _ _; rfl
  | succ n ih =>
    intro c N k hP hB hR hS h0 h1 ht
    have b := tkC_f hP hB (by omega)
    have r := (R_tk hP hB hR hS).2.2.2.2.2
    have e22 : tkC c 0 1 22 = c 22 := tkC_k (by decide)
    have e : tkN N (30 + 7 * q + 6) = nmM (tkC c 0 1) q := (r.2.1.2.2.1 q h0 (by rw [e22]; exact h1)).2
    show (if w < nmM (tkC c 0 1) q then k else miN (tkC c 0 1) q w (k + 1) n) = (if w < tkN N (30 + 7 * q + 6) then k else msN (tkN N) q w (k + 1) n)
    rw [e, ih _ _ (k + 1) b.1 b.2 r.1 r.2.1 h0 (by rw [e22]; exact h1) (by rw [tkC_t]; omega)]
section YY
variable {m : Mem} {N : Int → Int} {K : Nat}
/-- the state after some hours, thought of -/
theorem V_fut (h : ST m 0 0 N K) (n : Nat) (hn : m 0 0 0 + n ≤ 11000) : RP (tkL (cpS m 0 1) 0 1 n) 0 (tkNL N n) ∧ RS (tkL (cpS m 0 1) 0 1 n) 0 1 (tkNL N n) ∧ BP (tkL (cpS m 0 1) 0 1 n) 0 ∧ BS (tkL (cpS m 0 1) 0 1 n) 0 1 ∧ tkL (cpS m 0 1) 0 1 n 22 0 = m 22 0 ∧ tkL (cpS m 0 1) 0 1 n 0 1 0 = m 0 0 0 + n := by
  have c := h.cp (b := 1)
  have e0 : cpS m 0 1 0 1 0 = m 0 0 0 := by rw [cpS_lo (by decide)]
  have r := R_tkL n _ N c.1 c.2.1 c.2.2.1 c.2.2.2.1 (by rw [e0]; exact hn)
  have b := tkL_f n _ c.1 c.2.1 (by rw [e0]; exact hn)
  refine ⟨r.1, r.2, b.1, b.2, ?_, by rw [tkL_t, e0]⟩
  rw [tkL_k (by decide), cpS_hi (by decide)]
theorem V_chargeIn (h : ST m 0 0 N K) {a n : Int} (h0 : 0 ≤ a) (h1 : a < m 22 0 2) (hn : 1 ≤ n ∧ n ≤ 500) : tkL (cpS m 0 1) 0 1 n.toNat 3 1 a = tkNL N n.toNat (30 + 7 * a + 1) ∧ tkL (cpS m 0 1) 0 1 n.toNat 4 1 a = tkNL N n.toNat (30 + 7 * a + 2) ∧ tkL (cpS m 0 1) 0 1 n.toNat 4 0 a = N (30 + 7 * a + 2) := by
  have t := h.2.2.2.2.2.2.1
  have f := V_fut h n.toNat (by omega)
  have k := f.2.1.2.1 a h0 (by rw [f.2.2.2.2.1]; exact h1)
  have k0 := h.2.2.2.1.2.1 a h0 h1
  refine ⟨k.1.symm, k.2.1.symm, ?_⟩
  rw [tkL_i (by decide), cpS_i (by decide)]
  exact k0.2.1.symm
theorem V_end (h : ST m 0 0 N K) {l : Int} (h0 : 0 ≤ l) (h1 : l < m 2 0 0) : teM (cpS m 0 1) 0 1 l (500 : Int).toNat 20 1 l = enR N l 500 (318 + 7 * l + 5) ∧ teN (cpS m 0 1) 0 1 l (500 : Int).toNat = enC N l 500 := by
  have t := h.2.2.2.2.2.2.1
  have c := h.cp (b := 1)
  have e0 : cpS m 0 1 0 1 0 = m 0 0 0 := by rw [cpS_lo (by decide)]
  have e2 : cpS m 0 1 2 1 0 = m 2 0 0 := by rw [cpS_lo (by decide)]
  have v := V_te 500 c.1 c.2.1 c.2.2.1 c.2.2.2.1 h0 (by rw [e2]; exact h1) (by rw [e0]; omega)
  have k := (v.2.1.2.2.2.2.2.2 l h0 v.2.2.2).2.2.2.2.2.1
  exact ⟨k.symm, v.2.2.1⟩
theorem V_missIn (h : ST m 0 0 N K) {a : Int} (h0 : 0 ≤ a) (h1 : a < m 22 0 2) : miN (cpS m 0 1) a (sm (numC m 0 a 2) (m 1 0 0).toNat) 1 500 = msN N a (N (30 + 7 * a + 6)) 1 500 := by
  have t := h.2.2.2.2.2.2.1
  have c := h.cp (b := 1)
  have e0 : cpS m 0 1 0 1 0 = m 0 0 0 := by rw [cpS_lo (by decide)]
  have e22 : cpS m 0 1 22 = m 22 := cpS_hi (by decide)
  rw [← (h.2.2.2.1.2.2.1 a h0 h1).2]
  exact V_miss (p := 0) a _ 500 _ N 1 c.1 c.2.1 c.2.2.1 c.2.2.2.1 h0 (by rw [e22]; exact h1) (by rw [e0]; omega)
theorem V_lacks (h : ST m 0 0 N K) {a : Int} (h0 : 0 ≤ a) (h1 : a < m 1 0 0) (hz : m 12 0 a - m 0 0 0 < 500) (M : Mem) (hM : M = trL (shL (tkL (cpS m 0 1) 0 1 (m 12 0 a - m 0 0 0).toNat) 0 1 ((tkL (cpS m 0 1) 0 1 (m 12 0 a - m 0 0 0).toNat) 0 1 0 % 24) 0 (m 22 0 2).toNat) 0 1 0 a.toNat) : M 13 0 a = lkN N a (206 + 4 * a + 2) ∧ m 11 0 a = lkN N a (206 + 4 * a + 0) ∧ M 3 1 (m 11 0 a) = lkN N a (30 + 7 * lkN N a (206 + 4 * a + 0) + 1) ∧ (0 ≤ m 11 0 a ∧ m 11 0 a < 8) ∧ (1 ≤ M 13 0 a ∧ M 13 0 a ≤ 100000) ∧ (0 ≤ M 3 1 (m 11 0 a) ∧ M 3 1 (m 11 0 a) ≤ 100000) := by
  have n8 := h.1.2.2.1
  have n16 := h.2.1.2.2.2.1.1
  have t := h.2.2.2.2.2.2.1
  have t0 := h.2.1.1
  have bt := h.2.1.2.2.2.1.2 a h0 h1
  have kt := h.2.2.2.1.2.2.2.2.1 a h0 h1
  have r1 := h.2.2.2.1.1
  have e3 := h.2.2.1.1.2.2.1
  have ek : (N (206 + 4 * a + 1) - N 2).toNat = (m 12 0 a - m 0 0 0).toNat := by rw [kt.2.1, r1.1]
  have f := V_fut h (m 12 0 a - m 0 0 0).toNat (by omega)
  have g2 : tkNL N (m 12 0 a - m 0 0 0).toNat 2 = tkL (cpS m 0 1) 0 1 (m 12 0 a - m 0 0 0).toNat 0 1 0 := f.2.1.1.1
  have g3 : tkNL N (m 12 0 a - m 0 0 0).toNat 3 = m 22 0 2 := by rw [f.1.1.2.2.1, f.2.2.2.2.1]
  have tn : 0 ≤ tkL (cpS m 0 1) 0 1 (m 12 0 a - m 0 0 0).toNat 0 1 0 := by rw [f.2.2.2.2.2]; omega
  have s := R_shL (p := 0) (s := 1) (hr := tkL (cpS m 0 1) 0 1 (m 12 0 a - m 0 0 0).toNat 0 1 0 % 24) (by omega) (m 22 0 2).toNat _ (tkNL N (m 12 0 a - m 0 0 0).toNat) 0 f.2.2.1 f.2.2.2.1 f.1 f.2.1 (by decide) (by rw [f.2.2.2.2.1]; omega)
  have sb := BS_shL (p := 0) (s := 1) (hr := tkL (cpS m 0 1) 0 1 (m 12 0 a - m 0 0 0).toNat 0 1 0 % 24) (m 22 0 2).toNat _ 0 f.2.2.1 f.2.2.2.1 (by decide) (by rw [f.2.2.2.2.1]; omega)
  have ea : ∀ k, k ≠ 3 → k ≠ 0 → (k = 1 ∨ 11 ≤ k ∧ k ≤ 13 ∨ 22 ≤ k) → ∀ i, shL (tkL (cpS m 0 1) 0 1 (m 12 0 a - m 0 0 0).toNat) 0 1 ((tkL (cpS m 0 1) 0 1 (m 12 0 a - m 0 0 0).toNat) 0 1 0 % 24) 0 (m 22 0 2).toNat k i = cpS m 0 1 k i := fun k x y z i => by
    rw [shL_k x y, tkL_k (by omega)]
  have e1 : shL (tkL (cpS m 0 1) 0 1 (m 12 0 a - m 0 0 0).toNat) 0 1 ((tkL (cpS m 0 1) 0 1 (m 12 0 a - m 0 0 0).toNat) 0 1 0 % 24) 0 (m 22 0 2).toNat 1 1 0 = m 1 0 0 := by rw [ea 1 (by decide) (by decide) (by decide), cpS_lo (by decide)]
  have u := R_trL (p := 0) (s := 1) a.toNat _ _ 0 sb.1 sb.2 s.1 s.2 (by decide) (by rw [e1]; omega)
  have ub := BS_trL (p := 0) (s := 1) a.toNat _ 0 sb.1 sb.2 (by decide) (by rw [e1]; omega)
  rw [← hM] at u ub
  have el : lkN N a = trNL (shNL (tkNL N (m 12 0 a - m 0 0 0).toNat) (tkL (cpS m 0 1) 0 1 (m 12 0 a - m 0 0 0).toNat 0 1 0 % 24) 0 (m 22 0 2).toNat) 0 a.toNat := by
    unfold lkN
    rw [ek, g2, g3]
  rw [← el] at u
  have M1 : ∀ k, k ≠ 3 → k ≠ 0 → k ≠ 4 → k ≠ 14 → (k = 1 ∨ 11 ≤ k ∧ k ≤ 13 ∨ 22 ≤ k) → ∀ i, M k i = cpS m 0 1 k i := fun k x y z w v i => by
    rw [hM, trL_k x y z w, ea k x y v]
  have m1 : M 1 1 0 = m 1 0 0 := by rw [M1 1 (by decide) (by decide) (by decide) (by decide) (by decide), cpS_lo (by decide)]
  have m22 : M 22 0 = m 22 0 := by rw [M1 22 (by decide) (by decide) (by decide) (by decide) (by decide), cpS_hi (by decide)]
  have m11 : M 11 1 a = m 11 0 a := by rw [M1 11 (by decide) (by decide) (by decide) (by decide) (by decide), cpS_lo (by decide)]
  have m13 : M 13 1 a = m 13 0 a := by rw [M1 13 (by decide) (by decide) (by decide) (by decide) (by decide), cpS_lo (by decide)]
  have m130 : M 13 0 a = m 13 0 a := by rw [M1 13 (by decide) (by decide) (by decide) (by decide) (by decide), cpS_i (by decide)]
  have k5 := u.2.2.2.2.2.1 a h0 (by rw [m1]; exact h1)
  have ea0 : m 11 0 a = lkN N a (206 + 4 * a + 0) := by rw [k5.1, m11]
  have k2 := u.2.2.1 (m 11 0 a) bt.1.1 (by rw [m22]; exact bt.1.2)
  have b2 := (BS_pf ub.1 ub.2 (q := m 11 0 a) bt.1.1 (by rw [m22]; exact bt.1.2))
  have b3 := ub.2.2.1 (m 11 0 a) bt.1.1 (by rw [m22]; exact bt.1.2)
  have rb : M 3 1 (m 11 0 a) ≤ 100000 := by
    have r := b3.1.2
    have c23 := (ub.1.2.2.2.2.2.2.2.1 (m 11 0 a) bt.1.1 (by rw [m22]; exact bt.1.2)).1
    have : roomC M 0 1 (m 11 0 a) ≤ M 23 0 (m 11 0 a) := by
      have d0 : 0 ≤ M 4 1 (m 11 0 a) / M 22 0 0 := Int.ediv_nonneg b3.2.1.1 (by have := ub.1.1.1; omega)
      unfold roomC
      omega
    omega
  refine ⟨by rw [k5.2.2.1, m13, m130], ea0, ?_, ⟨bt.1.1, by have := bt.1.2; omega⟩, ?_, ⟨b3.1.1, rb⟩⟩
  · rw [← ea0]; exact k2.1.symm
  · rw [m130]; exact ⟨bt.2.2.1.1, bt.2.2.1.2⟩
theorem V_safe (h : ST m 0 0 N K) {a x n : Int} (h0 : 0 ≤ a) (h1 : a < m 22 0 6) (hx : 1 ≤ x ∧ x ≤ 100000) (hn : 1 ≤ n ∧ n ≤ 500) (hl : m 2 0 0 < 16) (C D E : Mem) (hC : C = tkL (cpS m 0 1) 0 1 n.toNat) (hD : D = addL (cpS C 0 1) 1 a x (cpS C 0 1 0 0 0 + n)) (hE : E = tkL D 0 1 n.toNat) : nmM C (m 28 0 a) = tkNL N n.toNat (30 + 7 * N (270 + 6 * a + 0) + 6) ∧ nmM E (m 28 0 a) = tkNL (ldN N a x n) n.toNat (30 + 7 * N (270 + 6 * a + 0) + 6) ∧ ST D 0 1 (ldN N a x n) K ∧ (0 ≤ nmM C (m 28 0 a) ∧ nmM C (m 28 0 a) ≤ 16) ∧ (0 ≤ nmM E (m 28 0 a) ∧ nmM E (m 28 0 a) ≤ 16) ∧ (0 ≤ N (30 + 7 * N (270 + 6 * a + 0) + 6) ∧ N (30 + 7 * N (270 + 6 * a + 0) + 6) ≤ 16) := by
  have t := h.2.2.2.2.2.2.1
  have t0 := h.2.1.1
  have nc := h.1.2.2.2.2.2.2.1
  have f := V_fut h n.toNat (by omega)
  rw [← hC] at f
  have bk := BP_c h.1 h0 h1
  have kc := h.2.2.1.2.2.2.2.2.1 a h0 h1
  have hn16 : ∀ {q : Mem}, BS q 0 1 → 0 ≤ nmM q (m 28 0 a) ∧ nmM q (m 28 0 a) ≤ 16 := fun {q} b => by
    have b16 := b.2.2.2.1.1
    have := sm_b (f := numC q 1 (m 28 0 a) 2) (n := (q 1 1 0).toNat) (a := 0) (b := 1) (fun i _ _ => by unfold numC; split <;> omega)
    unfold nmM
    omega
  have e1 : nmM C (m 28 0 a) = tkNL N n.toNat (30 + 7 * N (270 + 6 * a + 0) + 6) := by
    rw [kc.1]
    exact ((f.2.1.2.2.1 (m 28 0 a) bk.1.1 (by rw [f.2.2.2.2.1]; exact bk.1.2)).2).symm
  -- the copy made again is the world's own state
  have hC0 : ST C 0 0 N K := h.mv (fun k g => by rw [hC, tkL_i (by decide), cpS_i (by decide)]) (fun k g1 g2 => by rw [hC, tkL_k (by omega), cpS_hi g1])
  have c1 : ST (cpS C 0 1) 0 1 N K := hC0.cp
  have e22 : cpS C 0 1 22 0 = m 22 0 := by rw [cpS_hi (by decide), hC, tkL_k (by decide), cpS_hi (by decide)]
  have e2 : cpS C 0 1 2 1 0 = m 2 0 0 := by rw [cpS_lo (by decide), hC, tkL_i (by decide), cpS_i (by decide)]
  have e0 : cpS C 0 1 0 0 0 = m 0 0 0 := by rw [cpS_i (by decide), hC, tkL_i (by decide), cpS_i (by decide)]
  have e01 : cpS C 0 1 0 1 0 = m 0 0 0 := by rw [cpS_lo (by decide), hC, tkL_i (by decide), cpS_i (by decide)]
  have d : ST D 0 1 (ldN N a x n) K := by
    rw [hD]
    exact c1.lend h0 (by rw [e22]; exact h1) hx (by omega) (by rw [e0, e01]) (by rw [e2]; exact hl)
  have d0 : D 0 1 0 = m 0 0 0 := by rw [hD, addL_k (by omega), e01]
  have d22 : D 22 0 = m 22 0 := by rw [hD, addL_k (by omega), e22]
  have r := R_tkL n.toNat D _ d.1 d.2.1 d.2.2.1 d.2.2.2.1 (by rw [d0]; omega)
  have b := tkL_f n.toNat D d.1 d.2.1 (by rw [d0]; omega)
  have E22 : tkL D 0 1 n.toNat 22 0 = m 22 0 := by rw [tkL_k (by decide), d22]
  have e3 : nmM E (m 28 0 a) = tkNL (ldN N a x n) n.toNat (30 + 7 * N (270 + 6 * a + 0) + 6) := by
    rw [kc.1, hE]
    exact ((r.2.2.2.1 (m 28 0 a) bk.1.1 (by rw [E22]; exact bk.1.2)).2).symm
  refine ⟨e1, e3, d, hn16 f.2.2.2.1, hn16 (by rw [hE]; exact b.2), ?_⟩
  rw [kc.1, (h.2.2.2.1.2.2.1 (m 28 0 a) bk.1.1 bk.1.2).2]
  have b16 := h.2.1.2.2.2.1.1
  have := sm_b (f := numC m 0 (m 28 0 a) 2) (n := (m 1 0 0).toNat) (a := 0) (b := 1) (fun i _ _ => by unfold numC; split <;> omega)
  omega
end YY
