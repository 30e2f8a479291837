/-! load and append keep it -/
theorem ldL_3 : ∀ (n : Nat) (m : Mem), RB m → m 34 0 3 ≤ ldL m n 34 0 3 ∧ ldL m n 34 0 3 ≤ m 34 0 3 + n := by
  intro n
  induction n with
  | zero => intro m h; exact ⟨Int.le_refl _, by show m 34 0 3 ≤ _; omega⟩
  | succ n ih =>
    intro m h
    unfold ldL
    split
    · have r := RK_st (RB_nxt h)
      have i := ih _ r.1
      have e : nxt m 34 0 3 = m 34 0 3 + 1 := by
        unfold nxt
        rw [up3_at, (RK_se h).2.2.1]
      rw [r.2.2.1, e] at i
      omega
    · have e := (RK_se h).2.2.1
      rw [e]
      omega
theorem all_3 {m : Mem} (h : RW m) : 0 ≤ ldL (stM (ld0 m)) (stM (ld0 m) 34 0 5).toNat 34 0 3 ∧ ldL (stM (ld0 m)) (stM (ld0 m) 34 0 5).toNat 34 0 3 ≤ 500 := by
  have r := RK_st (RB_ld0 h)
  have a := ldL_3 (stM (ld0 m) 34 0 5).toNat _ r.1
  have e3 : stM (ld0 m) 34 0 3 = 0 := r.2.2.1
  have b := r.1.1
  rw [e3] at a
  omega
/-- what a load leaves, on both sides; X: the class's memory after it -/
theorem IV.loads {m x m2 : Mem} {K : Nat} (L : Mem) (hL : L = ldL (stM (ld0 m)) (stM (ld0 m) 34 0 5).toNat) (h : IV m K)
    (hk : ∀ k i, 33 ≤ k → k ≠ 34 → k ≠ 36 → x k i = m k i) (h34 : x 34 = up3 L 34 0 5 0 34)
    (hs0 : ∀ k i, k < 22 → i ≠ 0 → i ≠ 1 → i ≠ 4 → x k i = m k i) (hp0 : ∀ k i, 22 ≤ k → k < 33 → i ≠ 0 → i ≠ 3 → x k i = m k i)
    (hm : ∀ k i, k ≠ 41 → k ≠ 42 → k ≠ 43 → m2 k i = x k i) (h41 : ∀ j : Int, j ≠ 6 → m2 41 0 j = loF (loE x) 41 0 j)
    (hw : ST m2 0 0 (m2 42 0) K ∧ IVh m2 ∧ (∀ t, 0 ≤ t → t < m2 36 0 0 → ST m2 0 (hs m2 t) (rw45 m2 t) K)) : IV m2 K ∧ SO L (loE x) := by
  obtain ⟨h1, h2, h3, h4, h5⟩ := h
  obtain ⟨t1, t2, t3, t4, t5, t6, t7⟩ := h5
  have x41 : x 41 0 = m 41 0 := hk 41 0 (by decide) (by decide) (by decide)
  have x48 : x 48 0 = m 48 0 := hk 48 0 (by decide) (by decide) (by decide)
  have x35 : x 35 0 = m 35 0 := hk 35 0 (by decide) (by decide) (by decide)
  have hMW : MW x := by unfold MW; rw [x41, x48]; exact t2
  have hSO : SO L (loE x) := by
    rw [hL]
    exact R_load (by rw [x48]; exact t3) (by rw [x41]; exact t4) t1 hMW
  have hMB := MJ_loE hMW
  have hRB : RB L := by rw [hL]; exact RB_all t1
  have h33 : 0 ≤ L 34 0 3 ∧ L 34 0 3 ≤ 500 := by rw [hL]; exact all_3 t1
  have L35 : L 35 0 = m 35 0 := by rw [hL]; exact FD_all 35 0 (by decide) (by decide) (by decide)
  have k34 : ∀ j : Int, m2 34 0 j = up3 L 34 0 5 0 34 0 j := fun j => by rw [hm 34 0 (by decide) (by decide) (by decide), h34]
  have k35 : m2 35 0 = m 35 0 := by rw [hm 35 0 (by decide) (by decide) (by decide), x35]
  have k48 : m2 48 0 = m 48 0 := by rw [hm 48 0 (by decide) (by decide) (by decide), x48]
  have l41 : ∀ j : Int, j ≠ 9 → j ≠ 16 → j ≠ 17 → loF (loE x) 41 0 j = loE x 41 0 j := fun j a b d => by
    unfold loF
    rw [up3_off d, up3_off b, up3_off a]
  have e12 := hSO.1.2.2.2.1
  have e14 := hSO.1.2.2.1
  refine ⟨⟨hw.1, hw.2.1, hw.2.2, fun i hi => ?_, ?_⟩, hSO⟩
  · have q := h4 i hi
    have e6 : rw46 m2 i = rw46 m i := by unfold rw46; rw [hm 46 0 (by decide) (by decide) (by decide), hk 46 0 (by decide) (by decide) (by decide)]
    rw [hm 47 0 (by decide) (by decide) (by decide), hk 47 0 (by decide) (by decide) (by decide), hm 40 0 (by decide) (by decide) (by decide), hk 40 0 (by decide) (by decide) (by decide), e6]
    refine ⟨q.1, ?_⟩
    rcases q.2 with z | z
    · exact .inl z
    · exact .inr ⟨z.1, z.2.mv (fun k g => by rw [hm k _ (by omega) (by omega) (by omega), hs0 k _ g (by omega) (by omega) (by omega)]) (fun k g1 g2 => by rw [hm k _ (by omega) (by omega) (by omega), hp0 k _ g1 g2 (by omega) (by omega)])⟩
  · unfold IVt RW MW
    rw [k34, k34, k34, k35, k48, h41 9 (by decide), h41 11 (by decide), h41 15 (by decide), h41 16 (by decide), h41 17 (by decide), l41 11 (by decide) (by decide) (by decide), l41 15 (by decide) (by decide) (by decide)]
    have f9 : loF (loE x) 41 0 9 = 0 := by unfold loF; rw [up3_off (by decide), up3_off (by decide), up3_at]
    have f16 : loF (loE x) 41 0 16 = loE x 41 0 12 := by unfold loF; rw [up3_off (by decide), up3_at]
    have f17 : loF (loE x) 41 0 17 = (if loE x 41 0 12 = 0 then -1 else loE x 41 0 14) := by unfold loF; rw [up3_at]
    rw [f9, f16, f17, up3_at, up3_off (by decide), up3_off (by decide), ← e12, ← e14]
    exact ⟨⟨by decide, t1.2.1, hRB.2.2.2⟩, ⟨by decide, t2.2.1, hMB.1.2.2.2.2.1, hMB.1.2.2.2.2.2⟩, t3, rfl, rfl, rfl, by omega⟩
theorem loF_k {q : Mem} {k : Nat} (h : k ≠ 41) : loF q k = q k := by unfold loF; rw [up3_k h, up3_k h, up3_k h]
theorem IV.load0 {m : Mem} {K : Nat} (h : IV m K) : IV (loF (loE (txM m))) K ∧ (txM m 34 0 1 = loE (txM m) 41 0 12) ∧ (txM m 34 0 1 ≠ 0 → txM m 34 0 2 = loE (txM m) 41 0 13) ∧ inI (txM m 34 0 1) := by
  have hx : ∀ k i, ¬ (k < 22 ∧ i = 4) → ¬ (22 ≤ k ∧ k < 33 ∧ i = 3) → k ≠ 34 → txM m k i = m k i := FD_txM
  have t2 := h.2.2.2.2.2.1
  have hMW : MW (txM m) := by
    unfold MW
    rw [hx 41 0 (by omega) (by omega) (by decide), hx 48 0 (by omega) (by omega) (by decide)]
    exact t2
  have J := MJ_loE hMW
  have hm : ∀ k i, k ≠ 41 → k ≠ 42 → k ≠ 43 → loF (loE (txM m)) k i = txM m k i := fun k i a b d => by rw [loF_k a, J.2.1 k a d]
  have e42 : loF (loE (txM m)) 42 0 = m 42 0 := by rw [loF_k (by decide), J.2.1 42 (by decide) (by decide), hx 42 0 (by omega) (by omega) (by decide)]
  have e36 : loF (loE (txM m)) 36 0 = m 36 0 := by rw [hm 36 0 (by decide) (by decide) (by decide), hx 36 0 (by omega) (by omega) (by decide)]
  have e45 : ∀ t, rw45 (loF (loE (txM m))) t = rw45 m t := fun t => by unfold rw45; rw [hm 45 0 (by decide) (by decide) (by decide), hx 45 0 (by omega) (by omega) (by decide)]
  have eh : ∀ t, hs (loF (loE (txM m))) t = hs m t := fun t => by unfold hs; rw [e36]
  have cs : ∀ k i, k < 22 → i ≠ 4 → loF (loE (txM m)) k i = m k i := fun k i a b => by rw [hm k i (by omega) (by omega) (by omega), hx k i (by omega) (by omega) (by omega)]
  have cp : ∀ k i, 22 ≤ k → k < 33 → i ≠ 3 → loF (loE (txM m)) k i = m k i := fun k i a b d => by rw [hm k i (by omega) (by omega) (by omega), hx k i (by omega) (by omega) (by omega)]
  have r := IV.loads (m2 := loF (loE (txM m))) (x := txM m) _ rfl h (fun k i a b _ => hx k i (by omega) (by omega) b) rfl (fun k i a _ _ d => hx k i (by omega) (by omega) (by omega)) (fun k i a b _ d => hx k i (by omega) (by omega) (by omega)) hm (fun j _ => rfl) ⟨by
      rw [e42]
      exact h.1.mv (fun k g => cs k 0 g (by decide)) (fun k g1 g2 => cp k 0 g1 g2 (by decide)), by
      unfold IVh
      rw [e36, show loF (loE (txM m)) 41 0 6 = m 41 0 6 from by
        unfold loF
        rw [up3_off (by decide), up3_off (by decide), up3_off (by decide), J.2.2.1 6 (by decide), hx 41 0 (by omega) (by omega) (by decide)]]
      exact h.2.1, fun t a b => by
      rw [e36] at b
      rw [eh, e45]
      have hb := hs_b m t
      exact (h.2.2.1 t a b).mv (fun k g => cs k _ g (by omega)) (fun k g1 g2 => cp k 0 g1 g2 (by decide))⟩
  have e1 : ∀ j : Int, j ≠ 5 → txM m 34 0 j = ldL (stM (ld0 m)) (stM (ld0 m) 34 0 5).toNat 34 0 j := fun j a => by unfold txM; rw [up3_off a]
  refine ⟨r.1, by rw [e1 1 (by decide)]; exact r.2.1.2.2.2.1, fun a => ?_, ?_⟩
  · rw [e1 1 (by decide)] at a
    rw [e1 2 (by decide)]
    exact r.2.1.2.2.2.2.2 a
  · rw [e1 1 (by decide)]
    exact RB_i (RB_all h.2.2.2.2.1)
def ldX (m : Mem) : Mem := up3 (cpS (cpP (txM m) 3 0) 4 0) 36 0 0 0
theorem IV.load1 {m : Mem} {K : Nat} (h : IV m K) (hz : txM m 34 0 1 = 0) : IV (loZ (loE (ldX m))) K ∧ loE (ldX m) 41 0 12 = 0 ∧ txM m 22 3 2 = loE (ldX m) 43 0 3 ∧ (0 ≤ txM m 22 3 2 ∧ txM m 22 3 2 ≤ 8) ∧ MW (ldX m) := by
  have hx : ∀ k i, ¬ (k < 22 ∧ i = 4) → ¬ (22 ≤ k ∧ k < 33 ∧ i = 3) → k ≠ 34 → txM m k i = m k i := FD_txM
  have t2 := h.2.2.2.2.2.1
  have xk : ∀ k i, 33 ≤ k → k ≠ 36 → ldX m k i = txM m k i := fun k i a b => by unfold ldX; rw [up3_k b, cpS_hi (by omega), cpP_hi (by omega)]
  have xs : ∀ k i, k < 22 → i ≠ 0 → ldX m k i = txM m k i := fun k i a b => by unfold ldX; rw [up3_k (by omega), cpS_i b, cpP_hi (by omega)]
  have xs0 : ∀ k, k < 22 → ldX m k 0 = txM m k 4 := fun k a => by unfold ldX; rw [up3_k (by omega), cpS_lo a, cpP_hi (by omega)]
  have xp : ∀ k i, 22 ≤ k → k < 33 → i ≠ 0 → ldX m k i = txM m k i := fun k i a b d => by unfold ldX; rw [up3_k (by omega), cpS_hi a, cpP_i d]
  have xp0 : ∀ k, 22 ≤ k → k < 33 → ldX m k 0 = txM m k 3 := fun k a b => by unfold ldX; rw [up3_k (by omega), cpS_hi a, cpP_lo a b]
  have x36 : ldX m 36 0 0 = 0 ∧ ldX m 36 0 1 = m 36 0 1 := by
    unfold ldX
    exact ⟨by rw [up3_at], by rw [up3_off (by decide), cpS_hi (by decide), cpP_hi (by decide), hx 36 0 (by omega) (by omega) (by decide)]⟩
  have hMW : MW (ldX m) := by
    unfold MW
    rw [xk 41 0 (by decide) (by decide), xk 48 0 (by decide) (by decide), hx 41 0 (by omega) (by omega) (by decide), hx 48 0 (by omega) (by omega) (by decide)]
    exact t2
  have J := MJ_loE hMW
  have zk : ∀ k, k ≠ 41 → k ≠ 42 → loZ (loE (ldX m)) k = loE (ldX m) k := fun k a b => by unfold loZ; rw [up3_k a, cpX_q b, loF_k a]
  have hm : ∀ k i, k ≠ 41 → k ≠ 42 → k ≠ 43 → loZ (loE (ldX m)) k i = ldX m k i := fun k i a b d => by rw [zk k a b, J.2.1 k a d]
  have z42 : ∀ j, 0 ≤ j → j < 430 → loZ (loE (ldX m)) 42 0 j = loE (ldX m) 43 0 j := fun j a b => by
    unfold loZ
    rw [up3_k (by decide)]
    unfold cpX
    rw [if_pos ⟨rfl, rfl, by omega, by omega⟩, loF_k (by decide)]
    congr 1
    omega
  have e1 : txM m 34 0 1 = ldL (stM (ld0 m)) (stM (ld0 m) 34 0 5).toNat 34 0 1 := by unfold txM; rw [up3_off (by decide)]
  -- what the two readers read
  have hSO : SO (ldL (stM (ld0 m)) (stM (ld0 m) 34 0 5).toNat) (loE (ldX m)) :=
    R_load (by rw [xk 48 0 (by decide) (by decide), hx 48 0 (by omega) (by omega) (by decide)]; exact h.2.2.2.2.2.2.1) (by rw [xk 41 0 (by decide) (by decide), hx 41 0 (by omega) (by omega) (by decide)]; exact h.2.2.2.2.2.2.2.1) h.2.2.2.2.1 hMW
  have hD := hSO.2 (by rw [← e1]; exact hz)
  have hST : ST (ldL (stM (ld0 m)) (stM (ld0 m) 34 0 5).toNat) 3 4 (loE (ldX m) 43 0) K := ST_draft hD
  have tk : ∀ k, k ≠ 34 → txM m k = ldL (stM (ld0 m)) (stM (ld0 m) 34 0 5).toNat k := fun k a => by unfold txM; rw [up3_k a]
  have hW : ST (loZ (loE (ldX m))) 0 0 (loZ (loE (ldX m)) 42 0) K :=
    (hST.rw z42).mv (fun k g => by rw [hm k 0 (by omega) (by omega) (by omega), xs0 k g, tk k (by omega)]) (fun k g1 g2 => by rw [hm k 0 (by omega) (by omega) (by omega), xp0 k g1 g2, tk k (by omega)])
  have r := IV.loads (m2 := loZ (loE (ldX m))) (x := ldX m) _ rfl h (fun k i a b d => by rw [xk k i a d]; exact hx k i (by omega) (by omega) b)
    (by funext i j; rw [xk 34 i (by decide) (by decide)]; rfl)
    (fun k i a b _ d => by rw [xs k i a b]; exact hx k i (by omega) (by omega) (by omega)) (fun k i a b d e => by rw [xp k i a b d]; exact hx k i (by omega) (by omega) (by omega)) hm
    (fun j a => by unfold loZ; rw [up3_off a, cpX_q (by decide)])
    ⟨hW, by
      unfold IVh
      rw [hm 36 0 (by decide) (by decide) (by decide), x36.1, x36.2, show loZ (loE (ldX m)) 41 0 6 = 0 from by unfold loZ; rw [up3_at]]
      exact ⟨by decide, h.2.1.2.1, rfl⟩, fun t a b => by
      rw [hm 36 0 (by decide) (by decide) (by decide), x36.1] at b
      exfalso; omega⟩
  refine ⟨r.1, ?_, ?_, ?_, hMW⟩
  · rw [← hSO.1.2.2.2.1, ← e1]; exact hz
  · rw [tk 22 (by decide)]; exact hD.2.2.1.1.2.2.1.symm
  · rw [tk 22 (by decide)]; exact hD.1.2.2.1
/-- append -/
theorem ap_both (x : Int64) : ∀ (n : Nat) (k : Int) (c d : Mem), c 34 0 5 = d 41 0 9 → c 35 0 = d 48 0 → (∀ j, 0 ≤ j → j < 500 → -128 ≤ c 35 0 j ∧ c 35 0 j < 128) →
    apC x c k n 34 0 5 = apN x d k n 41 0 9 ∧ apC x c k n 35 0 = apN x d k n 48 0 ∧ apC x c k n 34 0 5 = c 34 0 5 + cnR x k n ∧ (∀ j, 0 ≤ j → j < 500 → -128 ≤ apC x c k n 35 0 j ∧ apC x c k n 35 0 j < 128) ∧
    (∀ p i, p ≠ 34 → p ≠ 35 → apC x c k n p i = c p i) ∧ (∀ j : Int, j ≠ 5 → apC x c k n 34 0 j = c 34 0 j) ∧ (∀ p i, p ≠ 41 → p ≠ 48 → apN x d k n p i = d p i) ∧ (∀ j : Int, j ≠ 9 → apN x d k n 41 0 j = d 41 0 j) := by
  intro n
  induction n with
  | zero => intro k c d h1 h2 h3; exact ⟨h1, h2, (Int.add_zero _).symm, h3, fun _ _ _ _ => rfl, fun _ _ => rfl, fun _ _ _ _ => rfl, fun _ _ => rfl⟩
  | succ n ih =>
    intro k c d h1 h2 h3
    unfold apC apN cnR
    by_cases g : bT x k = 0
    · rw [if_pos g, if_pos g, if_pos g]
      have i := ih (k + 1) c d h1 h2 h3
      exact ⟨i.1, i.2.1, by rw [i.2.2.1]; omega, i.2.2.2⟩
    · rw [if_neg g, if_neg g, if_neg g]
      have bb := bT_b x k
      have e5 : up3 (up3 c 35 0 (c 34 0 5) (bT x k)) 34 0 5 (c 34 0 5 + 1) 34 0 5 = c 34 0 5 + 1 := up3_at
      have i := ih (k + 1) (up3 (up3 c 35 0 (c 34 0 5) (bT x k)) 34 0 5 (c 34 0 5 + 1)) (up3 (up3 d 48 0 (d 41 0 9) (bT x k)) 41 0 9 (d 41 0 9 + 1)) (by rw [up3_at, up3_at, h1])
        (by
          funext j
          rw [up3_k (show (35 : Nat) ≠ 34 by decide), up3_k (show (48 : Nat) ≠ 41 by decide), h1]
          by_cases z : j = d 41 0 9
          · rw [z, up3_at, up3_at]
          · rw [up3_off z, up3_off z, h2])
        (fun j j0 j1 => by
          rw [up3_k (by decide)]
          by_cases z : j = c 34 0 5
          · rw [z, up3_at]; exact bb
          · rw [up3_off z]; exact h3 j j0 j1)
      refine ⟨i.1, i.2.1, by rw [i.2.2.1, e5]; omega, i.2.2.2.1, fun p q a b => ?_, fun j a => ?_, fun p q a b => ?_, fun j a => ?_⟩
      · rw [i.2.2.2.2.1 p q a b, up3_k a, up3_k b]
      · rw [i.2.2.2.2.2.1 j a, up3_off a, up3_k (by decide)]
      · rw [i.2.2.2.2.2.2.1 p q a b, up3_k a, up3_k b]
      · rw [i.2.2.2.2.2.2.2 j a, up3_off a, up3_k (by decide)]
theorem IV.app {m : Mem} {K : Nat} (h : IV m K) (x : Int64) (hf : ¬ apF x m) : IV (apN x (up3 (apC x m 0 8) 41 0 7 0) 0 8) K ∧ apC x m 0 8 34 0 5 = apN x (up3 (apC x m 0 8) 41 0 7 0) 0 8 41 0 9 ∧ ¬ apG x (apC x m 0 8) ∧ (0 ≤ apC x m 0 8 34 0 5 ∧ apC x m 0 8 34 0 5 ≤ 500) ∧ MW (apC x m 0 8) := by
  obtain ⟨h1, h2, h3, h4, h5⟩ := h
  obtain ⟨t1, t2, t3, t4, t5, t6, t7⟩ := h5
  have A := ap_both x 8 0 m m t4 t3 t1.2.1
  have cb := cnR_b x 8 0
  have c41 : apC x m 0 8 41 0 = m 41 0 := A.2.2.2.2.1 41 0 (by decide) (by decide)
  have c48 : apC x m 0 8 48 0 = m 48 0 := A.2.2.2.2.1 48 0 (by decide) (by decide)
  have hMW : MW (apC x m 0 8) := by unfold MW; rw [c41, c48]; exact t2
  have B := ap_both x 8 0 m (up3 (apC x m 0 8) 41 0 7 0) (by rw [up3_off (by decide), c41]; exact t4) (by rw [up3_k (by decide), c48]; exact t3) t1.2.1
  have hf' : ¬ 500 < m 34 0 5 + cnR x 0 8 := hf
  have nk : ∀ k i, k ≠ 34 → k ≠ 35 → k ≠ 41 → k ≠ 48 → apN x (up3 (apC x m 0 8) 41 0 7 0) 0 8 k i = m k i := fun k i a b d e => by
    rw [B.2.2.2.2.2.2.1 k i d e, up3_k d, B.2.2.2.2.1 k i a b]
  have n34 : ∀ j : Int, apN x (up3 (apC x m 0 8) 41 0 7 0) 0 8 34 0 j = apC x m 0 8 34 0 j := fun j => by rw [B.2.2.2.2.2.2.1 34 0 (by decide) (by decide), up3_k (by decide)]
  have n35 : apN x (up3 (apC x m 0 8) 41 0 7 0) 0 8 35 0 = apC x m 0 8 35 0 := by rw [B.2.2.2.2.2.2.1 35 0 (by decide) (by decide), up3_k (by decide)]
  have n41 : ∀ j : Int, j ≠ 7 → j ≠ 9 → apN x (up3 (apC x m 0 8) 41 0 7 0) 0 8 41 0 j = m 41 0 j := fun j a b => by
    rw [B.2.2.2.2.2.2.2 j b, up3_off a, c41]
  have e36 : apN x (up3 (apC x m 0 8) 41 0 7 0) 0 8 36 0 = m 36 0 := nk 36 0 (by decide) (by decide) (by decide) (by decide)
  refine ⟨⟨?_, ?_, fun t a b => ?_, fun i hi => ?_, ?_⟩, B.1, ?_, ?_, hMW⟩
  · rw [nk 42 0 (by decide) (by decide) (by decide) (by decide)]
    exact h1.mv (fun k g => nk k 0 (by omega) (by omega) (by omega) (by omega)) (fun k g1 g2 => nk k 0 (by omega) (by omega) (by omega) (by omega))
  · unfold IVh
    rw [e36, n41 6 (by decide) (by decide)]
    exact h2
  · rw [e36] at b
    have eh : hs (apN x (up3 (apC x m 0 8) 41 0 7 0) 0 8) t = hs m t := by unfold hs; rw [e36]
    have e5 : rw45 (apN x (up3 (apC x m 0 8) 41 0 7 0) 0 8) t = rw45 m t := by unfold rw45; rw [nk 45 0 (by decide) (by decide) (by decide) (by decide)]
    rw [eh, e5]
    exact (h3 t a b).mv (fun k g => nk k _ (by omega) (by omega) (by omega) (by omega)) (fun k g1 g2 => nk k 0 (by omega) (by omega) (by omega) (by omega))
  · have e6 : rw46 (apN x (up3 (apC x m 0 8) 41 0 7 0) 0 8) i = rw46 m i := by unfold rw46; rw [nk 46 0 (by decide) (by decide) (by decide) (by decide)]
    rw [nk 47 0 (by decide) (by decide) (by decide) (by decide), nk 40 0 (by decide) (by decide) (by decide) (by decide), e6]
    have q := h4 i hi
    refine ⟨q.1, ?_⟩
    rcases q.2 with z | z
    · exact .inl z
    · exact .inr ⟨z.1, z.2.mv (fun k g => nk k _ (by omega) (by omega) (by omega) (by omega)) (fun k g1 g2 => nk k _ (by omega) (by omega) (by omega) (by omega))⟩
  · have a1 := A.2.2.1
    have o1 := A.2.2.2.2.2.1
    have r1 := t1.1
    unfold IVt RW MW
    rw [n34, n34, n34, n35, n41 11 (by decide) (by decide), n41 15 (by decide) (by decide), n41 16 (by decide) (by decide), n41 17 (by decide) (by decide), ← B.1, ← B.2.1, o1 1 (by decide), o1 3 (by decide), a1]
    exact ⟨⟨by omega, A.2.2.2.1, t1.2.2⟩, ⟨by omega, A.2.2.2.1, t2.2.2⟩, rfl, rfl, t5, t6, t7⟩
  · unfold apG
    rw [c41, ← t4]
    exact hf'
  · rw [A.2.2.1]
    have := t1.1
    omega
