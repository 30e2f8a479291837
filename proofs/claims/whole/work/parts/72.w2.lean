/-! undo, snapshots, load, append keep it -/
theorem cpX_q {m : Mem} {k k' : Nat} {a b n : Int} {q : Nat} (h : q ≠ k') : cpX m k k' a b n q = m q := by
  funext i j
  unfold cpX
  rw [if_neg (fun z => h z.1)]
theorem popT_b (m : Mem) (h : 0 ≤ m 36 0 1 ∧ m 36 0 1 < 8) : 0 ≤ popT m ∧ popT m < 8 := by unfold popT; omega
theorem IV.undo {m m2 : Mem} {K : Nat} (h : IV m K) (hz : m 36 0 0 ≠ 0) (hm2 : m2 = cpX (sr (up3 (thr (popC m) 0) 41 0 6 ((popC m) 41 0 6 - 1)) ((popC m) 42 0)) 45 42 ((popC m) 41 0 6 - 1) 0 430) : IV m2 K := by
  obtain ⟨h1, h2, h3, h4, h5⟩ := h
  have hn := h2.1
  have hx := h2.2.1
  have h6 := h2.2.2
  have pb := popT_b m hx
  have c41 : popC m 41 0 = m 41 0 := by unfold popC; rw [cpS_hi (by decide), up3_k (by decide), up3_k (by decide)]
  have ck : ∀ k i, 22 ≤ k → k ≠ 36 → popC m k i = m k i := fun k i a b => by unfold popC; rw [cpS_hi a, up3_k b, up3_k b]
  have ci : ∀ k i, k < 22 → i ≠ 0 → popC m k i = m k i := fun k i a b => by unfold popC; rw [cpS_i b, up3_k (by omega), up3_k (by omega)]
  have c0 : ∀ k, k < 22 → popC m k 0 = m k (5 + (popT m).toNat) := fun k a => by unfold popC; rw [cpS_lo a, up3_k (by omega), up3_k (by omega)]
  have c36 : popC m 36 0 0 = m 36 0 0 - 1 ∧ popC m 36 0 1 = popT m := by
    unfold popC
    rw [cpS_hi (by decide)]
    exact ⟨by rw [up3_at], by rw [up3_off (by decide), up3_at]⟩
  have mk : ∀ k i, k ≠ 41 → k ≠ 42 → m2 k i = popC m k i := fun k i a b => by
    rw [hm2, cpX_q b, sr_k b, up3_k a]
    unfold thr
    rw [up3_k a]
  have m41 : ∀ j : Int, j ≠ 6 → j ≠ 7 → m2 41 0 j = m 41 0 j := fun j a b => by
    rw [hm2, cpX_q (by decide), sr_k (by decide), up3_off a]
    unfold thr
    rw [up3_off b, c41]
  have m6 : m2 41 0 6 = m 36 0 0 - 1 := by rw [hm2, cpX_q (by decide), sr_k (by decide), up3_at, c41, h6]
  have m42 : ∀ j, 0 ≤ j → j < 430 → m2 42 0 j = rw45 m (m 36 0 0 - 1) j := fun j a b => by
    rw [hm2]
    unfold cpX rw45
    rw [if_pos ⟨rfl, rfl, by omega, by omega⟩, sr_k (by decide), up3_k (by decide), c41, h6]
    unfold thr
    rw [up3_k (by decide), ck 45 0 (by decide) (by decide)]
    congr 1
    omega
  have e5 : ∀ t, rw45 m2 t = rw45 m t := fun t => by unfold rw45; rw [mk 45 0 (by decide) (by decide), ck 45 0 (by decide) (by decide)]
  have e6 : ∀ t, rw46 m2 t = rw46 m t := fun t => by unfold rw46; rw [mk 46 0 (by decide) (by decide), ck 46 0 (by decide) (by decide)]
  have q36 : m2 36 0 = popC m 36 0 := mk 36 0 (by decide) (by decide)
  refine ⟨?_, ?_, fun t a b => ?_, fun i hi => ?_, ?_⟩
  · have s := h3 (m 36 0 0 - 1) (by omega) (by omega)
    have es : hs m (m 36 0 0 - 1) = 5 + (popT m).toNat := by unfold hs popT; omega
    rw [es] at s
    exact (s.rw (fun j a b => m42 j a b)).mv (fun k g => by rw [mk k 0 (by omega) (by omega), c0 k g]) (fun k g1 g2 => by rw [mk k 0 (by omega) (by omega), ck k 0 g1 (by omega)])
  · unfold IVh
    rw [q36, c36.1, c36.2, m6]
    exact ⟨by omega, pb, rfl⟩
  · have eh : hs m2 t = hs m t := by
      unfold hs
      rw [q36, c36.1, c36.2]
      unfold popT
      omega
    rw [q36, c36.1] at b
    rw [eh, e5]
    have hb := hs_b m t
    exact (h3 t a (by omega)).mv (fun k g => by rw [mk k _ (by omega) (by omega), ci k _ g (by omega)]) (fun k g1 g2 => by rw [mk k 0 (by omega) (by omega), ck k 0 g1 (by omega)])
  · rw [mk 47 0 (by decide) (by decide), mk 40 0 (by decide) (by decide), ck 47 0 (by decide) (by decide), ck 40 0 (by decide) (by decide), e6]
    have q := h4 i hi
    refine ⟨q.1, ?_⟩
    rcases q.2 with z | z
    · exact .inl z
    · exact .inr ⟨z.1, z.2.mv (fun k g => by rw [mk k _ (by omega) (by omega), ci k _ g (by omega)]) (fun k g1 g2 => by rw [mk k _ (by omega) (by omega), ck k _ g1 (by omega)])⟩
  · unfold IVt RW MW
    rw [mk 34 0 (by decide) (by decide), mk 35 0 (by decide) (by decide), mk 48 0 (by decide) (by decide), ck 34 0 (by decide) (by decide), ck 35 0 (by decide) (by decide), ck 48 0 (by decide) (by decide), m41 9 (by decide) (by decide), m41 11 (by decide) (by decide), m41 15 (by decide) (by decide), m41 16 (by decide) (by decide), m41 17 (by decide) (by decide)]
    exact h5
def svC (m : Mem) (s : Int) : Mem := up3 (cpS (cpP m 0 (1 + s.toNat)) 0 (2 + s.toNat)) 40 0 s 1
theorem IV.save {m c1 m2 : Mem} {K : Nat} {s : Int} (h : IV m K) (hs1 : 0 ≤ s ∧ s ≤ 1) (hc1 : Kp (svC m s) c1) (hm2 : m2 = sr (up3 (cpX (sr (thr c1 0) (c1 42 0)) 42 46 0 s 430) 47 0 s 1) (c1 42 0)) : IV m2 K := by
  obtain ⟨h1, h2, h3, h4, h5⟩ := h
  obtain ⟨e1, e2, e34, e35, e36, e40, e42, e45, e46, e47, e48, e41⟩ := hc1
  have sk : ∀ k i, 33 ≤ k → k ≠ 40 → svC m s k i = m k i := fun k i a b => by unfold svC; rw [up3_k b, cpS_hi (by omega), cpP_hi (by omega)]
  have s42 : c1 42 0 = m 42 0 := by rw [e42, sk 42 0 (by decide) (by decide)]
  rw [s42] at hm2
  have e0 : sr (thr c1 0) (m 42 0) = thr c1 0 := by
    have : thr c1 0 42 0 = m 42 0 := by unfold thr; rw [up3_k (by decide), s42]
    rw [← this, sr_self]
  rw [e0] at hm2
  have m42 : m2 42 0 = m 42 0 := by rw [hm2, sr_at]
  have mk : ∀ k i, k ≠ 41 → k ≠ 42 → k ≠ 46 → k ≠ 47 → m2 k i = c1 k i := fun k i a b x y => by
    rw [hm2, sr_k b, up3_k y, cpX_q x]
    unfold thr
    rw [up3_k a]
  have m41 : ∀ j : Int, j ≠ 7 → j ≠ 18 → m2 41 0 j = m 41 0 j := fun j a b => by
    rw [hm2, sr_k (by decide), up3_k (by decide), cpX_q (by decide)]
    unfold thr
    rw [up3_off a, e41 j a b, sk 41 0 (by decide) (by decide)]
  have st0 : ∀ k i, k < 22 → i ≠ 1 → i ≠ 4 → i ≠ 2 + s.toNat → m2 k i = m k i := fun k i a x y z => by
    rw [mk k i (by omega) (by omega) (by omega) (by omega), e1 k i a x y]
    unfold svC
    rw [up3_k (by omega), cpS_i z, cpP_hi (by omega)]
  have stS : ∀ k, k < 22 → m2 k (2 + s.toNat) = m k 0 := fun k a => by
    rw [mk k _ (by omega) (by omega) (by omega) (by omega), e1 k _ a (by omega) (by omega)]
    unfold svC
    rw [up3_k (by omega), cpS_lo a, cpP_hi (by omega)]
  have pl0 : ∀ k i, 22 ≤ k → k < 33 → i ≠ 3 → i ≠ 1 + s.toNat → m2 k i = m k i := fun k i a b x y => by
    rw [mk k i (by omega) (by omega) (by omega) (by omega), e2 k i a b x]
    unfold svC
    rw [up3_k (by omega), cpS_hi a, cpP_i y]
  have plS : ∀ k, 22 ≤ k → k < 33 → m2 k (1 + s.toNat) = m k 0 := fun k a b => by
    rw [mk k _ (by omega) (by omega) (by omega) (by omega), e2 k _ a b (by omega)]
    unfold svC
    rw [up3_k (by omega), cpS_hi a, cpP_lo a b]
  have q36 : m2 36 0 = m 36 0 := by rw [mk 36 0 (by decide) (by decide) (by decide) (by decide), e36, sk 36 0 (by decide) (by decide)]
  have e5 : ∀ t, rw45 m2 t = rw45 m t := fun t => by unfold rw45; rw [mk 45 0 (by decide) (by decide) (by decide) (by decide), e45, sk 45 0 (by decide) (by decide)]
  have eh : ∀ t, hs m2 t = hs m t := fun t => by unfold hs; rw [q36]
  have r40 : ∀ i : Int, m2 40 0 i = if i = s then 1 else m 40 0 i := fun i => by
    rw [mk 40 0 (by decide) (by decide) (by decide) (by decide), e40]
    unfold svC
    by_cases g : i = s
    · rw [if_pos g, g, up3_at]
    · rw [if_neg g, up3_off g, cpS_hi (by decide), cpP_hi (by decide)]
  have r47 : ∀ i : Int, m2 47 0 i = if i = s then 1 else m 47 0 i := fun i => by
    rw [hm2, sr_k (by decide)]
    by_cases g : i = s
    · rw [if_pos g, g, up3_at]
    · rw [if_neg g, up3_off g, cpX_q (by decide)]
      unfold thr
      rw [up3_k (by decide), e47, sk 47 0 (by decide) (by decide)]
  have r46 : ∀ (t j : Int), 0 ≤ j → j < 430 → rw46 m2 t j = if t = s then m 42 0 j else rw46 m t j := fun t j a b => by
    unfold rw46
    rw [hm2, sr_k (by decide), up3_k (by decide)]
    unfold cpX
    by_cases g : t = s
    · rw [if_pos ⟨rfl, rfl, by omega, by omega⟩, if_pos g]
      unfold thr
      rw [up3_k (by decide), s42]
      congr 1
      omega
    · rw [if_neg (fun q => by have := q.2.2; omega), if_neg g]
      unfold thr
      rw [up3_k (by decide), e46, sk 46 0 (by decide) (by decide)]
  refine ⟨?_, ?_, fun t a b => ?_, fun i hi => ?_, ?_⟩
  · rw [m42]
    exact h1.mv (fun k g => st0 k 0 g (by decide) (by decide) (by omega)) (fun k g1 g2 => pl0 k 0 g1 g2 (by decide) (by omega))
  · unfold IVh
    rw [q36, m41 6 (by decide) (by decide)]
    exact h2
  · rw [q36] at b
    rw [eh, e5]
    have hb := hs_b m t
    exact (h3 t a b).mv (fun k g => st0 k _ g (by omega) (by omega) (by omega)) (fun k g1 g2 => pl0 k 0 g1 g2 (by decide) (by omega))
  · rw [r47, r40]
    have q := h4 i hi
    by_cases g : (i : Int) = s
    · rw [if_pos g, if_pos g]
      refine ⟨rfl, .inr ⟨rfl, ?_⟩⟩
      have ei : s.toNat = i := by omega
      rw [ei] at stS plS
      exact (h1.rw (fun j a b => by rw [r46 i j a b, if_pos g])).mv (fun k g => stS k g) (fun k g1 g2 => plS k g1 g2)
    · rw [if_neg g, if_neg g]
      refine ⟨q.1, ?_⟩
      rcases q.2 with z | z
      · exact .inl z
      · exact .inr ⟨z.1, (z.2.rw (fun j a b => by rw [r46 i j a b, if_neg g])).mv (fun k g => st0 k _ g (by omega) (by omega) (by omega)) (fun k g1 g2 => pl0 k _ g1 g2 (by omega) (by omega))⟩
  · unfold IVt RW MW
    rw [mk 34 0 (by decide) (by decide) (by decide) (by decide), mk 35 0 (by decide) (by decide) (by decide) (by decide), mk 48 0 (by decide) (by decide) (by decide) (by decide), e34, e35, e48, sk 34 0 (by decide) (by decide), sk 35 0 (by decide) (by decide), sk 48 0 (by decide) (by decide), m41 9 (by decide) (by decide), m41 11 (by decide) (by decide), m41 15 (by decide) (by decide), m41 16 (by decide) (by decide), m41 17 (by decide) (by decide)]
    exact h5
def rsC (m : Mem) (s : Int) : Mem := up3 (cpS (cpP m (1 + s.toNat) 0) (2 + s.toNat) 0) 36 0 0 0
theorem IV.rest {m c1 m2 : Mem} {K : Nat} {s : Int} (h : IV m K) (hs1 : 0 ≤ s ∧ s ≤ 1) (hz : m 40 0 s ≠ 0) (hc1 : Kp (rsC m s) c1) (hm2 : m2 = sr (up3 (cpX (sr (thr c1 0) (c1 42 0)) 46 42 s 0 430) 41 0 6 0) ((cpX (sr (thr c1 0) (c1 42 0)) 46 42 s 0 430) 42 0)) : IV m2 K := by
  obtain ⟨h1, h2, h3, h4, h5⟩ := h
  obtain ⟨e1, e2, e34, e35, e36, e40, e42, e45, e46, e47, e48, e41⟩ := hc1
  have sk : ∀ k i, 33 ≤ k → k ≠ 36 → rsC m s k i = m k i := fun k i a b => by unfold rsC; rw [up3_k b, cpS_hi (by omega), cpP_hi (by omega)]
  have e0 : sr (thr c1 0) (c1 42 0) = thr c1 0 := by
    have : thr c1 0 42 0 = c1 42 0 := by unfold thr; rw [up3_k (by decide)]
    rw [← this, sr_self]
  rw [e0] at hm2
  have m42 : ∀ j, 0 ≤ j → j < 430 → m2 42 0 j = rw46 m s j := fun j a b => by
    rw [hm2, sr_at]
    unfold cpX rw46
    rw [if_pos ⟨rfl, rfl, by omega, by omega⟩]
    unfold thr
    rw [up3_k (by decide), e46, sk 46 0 (by decide) (by decide)]
    congr 1
    omega
  have mk : ∀ k i, k ≠ 41 → k ≠ 42 → m2 k i = c1 k i := fun k i a b => by
    rw [hm2, sr_k b, up3_k a, cpX_q b]
    unfold thr
    rw [up3_k a]
  have m41 : ∀ j : Int, j ≠ 6 → j ≠ 7 → j ≠ 18 → m2 41 0 j = m 41 0 j := fun j x a b => by
    rw [hm2, sr_k (by decide), up3_off x, cpX_q (by decide)]
    unfold thr
    rw [up3_off a, e41 j a b, sk 41 0 (by decide) (by decide)]
  have m6 : m2 41 0 6 = 0 := by rw [hm2, sr_k (by decide), up3_at]
  have st0 : ∀ k i, k < 22 → i ≠ 1 → i ≠ 4 → i ≠ 0 → m2 k i = m k i := fun k i a x y z => by
    rw [mk k i (by omega) (by omega), e1 k i a x y]
    unfold rsC
    rw [up3_k (by omega), cpS_i z, cpP_hi (by omega)]
  have stS : ∀ k, k < 22 → m2 k 0 = m k (2 + s.toNat) := fun k a => by
    rw [mk k _ (by omega) (by omega), e1 k _ a (by omega) (by omega)]
    unfold rsC
    rw [up3_k (by omega), cpS_lo a, cpP_hi (by omega)]
  have pl0 : ∀ k i, 22 ≤ k → k < 33 → i ≠ 3 → i ≠ 0 → m2 k i = m k i := fun k i a b x y => by
    rw [mk k i (by omega) (by omega), e2 k i a b x]
    unfold rsC
    rw [up3_k (by omega), cpS_hi a, cpP_i y]
  have plS : ∀ k, 22 ≤ k → k < 33 → m2 k 0 = m k (1 + s.toNat) := fun k a b => by
    rw [mk k _ (by omega) (by omega), e2 k _ a b (by omega)]
    unfold rsC
    rw [up3_k (by omega), cpS_hi a, cpP_lo a b]
  have q36 : m2 36 0 0 = 0 ∧ m2 36 0 1 = m 36 0 1 := by
    rw [mk 36 0 (by decide) (by decide), e36]
    unfold rsC
    exact ⟨by rw [up3_at], by rw [up3_off (by decide), cpS_hi (by decide), cpP_hi (by decide)]⟩
  have e6 : ∀ t, rw46 m2 t = rw46 m t := fun t => by unfold rw46; rw [mk 46 0 (by decide) (by decide), e46, sk 46 0 (by decide) (by decide)]
  have r40 : m2 40 0 = m 40 0 := by rw [mk 40 0 (by decide) (by decide), e40, sk 40 0 (by decide) (by decide)]
  have r47 : m2 47 0 = m 47 0 := by rw [mk 47 0 (by decide) (by decide), e47, sk 47 0 (by decide) (by decide)]
  refine ⟨?_, ?_, fun t a b => by rw [q36.1] at b; exfalso; omega, fun i hi => ?_, ?_⟩
  · have q := h4 s.toNat (by omega)
    have es : ((s.toNat : Nat) : Int) = s := by omega
    rw [es] at q
    rcases q.2 with z | z
    · exact absurd z hz
    · exact (z.2.rw (fun j a b => m42 j a b)).mv (fun k g => stS k g) (fun k g1 g2 => plS k g1 g2)
  · unfold IVh
    rw [q36.1, q36.2, m6]
    exact ⟨by decide, h2.2.1, rfl⟩
  · rw [r47, r40, e6]
    have q := h4 i hi
    refine ⟨q.1, ?_⟩
    rcases q.2 with z | z
    · exact .inl z
    · exact .inr ⟨z.1, z.2.mv (fun k g => st0 k _ g (by omega) (by omega) (by omega)) (fun k g1 g2 => pl0 k _ g1 g2 (by omega) (by omega))⟩
  · unfold IVt RW MW
    rw [mk 34 0 (by decide) (by decide), mk 35 0 (by decide) (by decide), mk 48 0 (by decide) (by decide), e34, e35, e48, sk 34 0 (by decide) (by decide), sk 35 0 (by decide) (by decide), sk 48 0 (by decide) (by decide), m41 9 (by decide) (by decide) (by decide), m41 11 (by decide) (by decide) (by decide), m41 15 (by decide) (by decide) (by decide), m41 16 (by decide) (by decide) (by decide), m41 17 (by decide) (by decide) (by decide)]
    exact h5
