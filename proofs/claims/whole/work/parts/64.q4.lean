/-! a whole text read by both readers -/
theorem wd_len {T : Int → Int} {a b : Int} {i : Nat} (h : wdB T a b i = true) : b - a = sL i := by
  unfold wdB at h
  split at h
  · assumption
  · exact absurd h (by decide)
theorem wd_1st {T : Int → Int} {a b : Int} {i : Nat} (hi : i < 7) (h : wdB T a b i = true) : T a = sB i 0 := by
  have hp : ∃ n, (sL i).toNat = n + 1 := by
    match i, hi with
    | 0, _ => exact ⟨4, rfl⟩
    | 1, _ => exact ⟨4, rfl⟩
    | 2, _ => exact ⟨3, rfl⟩
    | 3, _ => exact ⟨4, rfl⟩
    | 4, _ => exact ⟨2, rfl⟩
    | 5, _ => exact ⟨3, rfl⟩
    | 6, _ => exact ⟨7, rfl⟩
    | n + 7, hi => exact absurd hi (by omega)
  obtain ⟨n, hn⟩ := hp
  unfold wdB at h
  split at h
  · rw [hn] at h
    have h2 : (if T (a + (0 : Nat)) = sB i 0 then wF T a i n 1 else false) = true := h
    split at h2
    · rename_i g
      have e : a + ((0 : Nat) : Int) = a := by omega
      rw [e] at g
      exact g
    · exact absurd h2 (by decide)
  · exact absurd h (by decide)
theorem wd_packs {T : Int → Int} {a b : Int} (h : wdB T a b 0 = true) : ∀ i, 1 ≤ i → i < 7 → ¬ wdB T a b i = true := by
  intro i h1 h7 z
  have l0 := wd_len h
  have l1 := wd_len z
  have f0 := wd_1st (by decide) h
  have f1 := wd_1st h7 z
  rw [l0] at l1
  rw [f0] at f1
  have hd : ∀ i < 7, 1 ≤ i → sL 0 = sL i → sB 0 0 ≠ sB i 0 := by decide +kernel
  exact hd i h7 h1 l1 f1
theorem R_full {q w : Mem} {A : Int} (h : Rd q w) (hA : A = w 41 0 15) : SO (failM q 4 A) (roM w) := by
  refine ⟨?_, fun z => absurd z (failM_e (by decide))⟩
  unfold roM
  exact R_fail (Rd_m11 h) (by decide) (fun _ => by rw [up3_at]; exact hA)
theorem R_stm {c m : Mem} (h : Rd c m) (e : c 34 0 1 = 0) (hB : RB c) (hC : CB c) (hM : MB m) (hN : NB3 m) (hD : DRN c (m 43 0)) (h3 : c 34 0 3 ≠ 0) : SO (stM c) (smM m) := by
  obtain ⟨r1, r2, r3⟩ := R_st1 h e
  have R : Rd (st1 c) (sm1 m) := Rd_m15 r1
  have qe : st1 c 34 0 1 = 0 := by rw [st1_j (by decide)]; exact e
  have qB := RB_st1 hB
  have qC := CB_st1 hC
  have wM := MB_sm1 hM
  have wN : NB3 (sm1 m) := hN.k (sm1_k (by decide))
  have qD : DRN (st1 c) (sm1 m 43 0) := by
    rw [show sm1 m 43 = m 43 from sm1_k (by decide)]
    exact hD.k (fun k hk => st1_k (by omega))
  have w11 : sm1 m 41 0 11 = stA c := by unfold sm1; rw [up3_off (by decide)]; exact r2.symm
  have w15 : stA c = sm1 m 41 0 15 := by unfold sm1; rw [up3_at]; exact r2
  have w10 : sm1 m 41 0 10 = st1 c 34 0 6 := by unfold sm1; rw [up3_off (by decide)]; exact r3.symm
  have hW : ∀ i, smW m i = wdB (st1 c 35 0) (stA c) (st1 c 34 0 6) i := fun i => by unfold smW; rw [w11, w10, ← R.1]
  have hK : stK c = kdN (st1 c 35 0) (stA c) (st1 c 34 0 6) := rfl
  have n2 := qD.2.2.1.1
  have t7 := qD.2.2.2.1.1.2.2.2.2.2.1
  unfold smM
  rw [hW 1, hW 2, hW 3, hW 4, hW 5, hW 6]
  unfold kdN at hK
  have fail1 : stK c = -1 ∨ stK c = 0 → SO (stM c) (faM (sm1 m) 1) := fun g => by
    have hp : stP c := by
      unfold stP
      rcases g with g | g
      · exact Or.inl g
      · exact Or.inr (fun z => h3 (z.mp g))
    unfold stM
    rw [if_pos hp]
    exact ⟨R_fail R (by decide) (fun _ => w11.symm), fun z => absurd z (failM_e (by decide))⟩
  have nope : 1 ≤ stK c → ¬ stP c := fun g z => by
    rcases z with z | z
    · omega
    · exact z ⟨fun y => by omega, fun y => absurd y h3⟩
  have full : ∀ k : Int, stK c = k → 1 ≤ k → fuP (st1 c) k → SO (stM c) (roM (sm1 m)) := fun k g g1 g2 => by
    unfold stM
    rw [if_neg (nope (by omega)), g, if_pos g2]
    exact R_full R w15
  have good : ∀ k : Int, stK c = k → 1 ≤ k → ¬ fuP (st1 c) k → stM c = rdK (st1 c) k := fun k g g1 g2 => by
    unfold stM
    rw [if_neg (nope (by omega)), g, if_neg g2]
  by_cases g0 : wdB (st1 c 35 0) (stA c) (st1 c 34 0 6) 0 = true
  · have nw := wd_packs g0
    rw [if_neg (nw 1 (by decide) (by decide)), if_neg (nw 2 (by decide) (by decide)), if_neg (nw 3 (by decide) (by decide)), if_neg (nw 4 (by decide) (by decide)), if_neg (nw 5 (by decide) (by decide)), if_neg (nw 6 (by decide) (by decide))]
    rw [if_pos g0] at hK
    exact fail1 (Or.inr hK)
  rw [if_neg g0] at hK
  by_cases g1 : wdB (st1 c 35 0) (stA c) (st1 c 34 0 6) 1 = true
  · rw [if_pos g1] at hK ⊢
    by_cases f : fuP (st1 c) 1
    · have f2 : pt1 (sm1 m) = roM (sm1 m) := by unfold pt1; unfold fuP at f; rw [if_neg (by omega)]
      rw [f2]; exact full 1 hK (by decide) f
    · rw [good 1 hK (by decide) f]
      unfold fuP at f
      exact R_rd1 R qe qB wM wN qD (by omega) (by omega)
  rw [if_neg g1] at hK ⊢
  by_cases g2 : wdB (st1 c 35 0) (stA c) (st1 c 34 0 6) 2 = true
  · rw [if_pos g2] at hK ⊢
    by_cases f : fuP (st1 c) 2
    · have f2 : pt2 (sm1 m) = roM (sm1 m) := by unfold pt2; unfold fuP at f; rw [if_neg (by omega)]
      rw [f2]; exact full 2 hK (by decide) f
    · rw [good 2 hK (by decide) f]
      unfold fuP at f
      exact R_rd2 R qe qB wM wN qD (by omega) (by omega)
  rw [if_neg g2] at hK ⊢
  by_cases g3 : wdB (st1 c 35 0) (stA c) (st1 c 34 0 6) 3 = true
  · rw [if_pos g3] at hK ⊢
    by_cases f : fuP (st1 c) 3
    · have f2 : pt3 (sm1 m) = roM (sm1 m) := by unfold pt3; unfold fuP at f; rw [if_neg (by omega)]
      rw [f2]; exact full 3 hK (by decide) f
    · rw [good 3 hK (by decide) f]
      unfold fuP at f
      exact R_rd3 R qe qB wM wN qD (by omega) (by omega)
  rw [if_neg g3] at hK ⊢
  by_cases g4 : wdB (st1 c 35 0) (stA c) (st1 c 34 0 6) 4 = true
  · rw [if_pos g4] at hK ⊢
    by_cases f : fuP (st1 c) 4
    · have f2 : pt4 (sm1 m) = roM (sm1 m) := by unfold pt4; unfold fuP at f; rw [if_neg (by omega)]
      rw [f2]; exact full 4 hK (by decide) f
    · rw [good 4 hK (by decide) f]
      unfold fuP at f
      exact R_rd4 R qe qB wM wN qD (by omega) (by omega)
  rw [if_neg g4] at hK ⊢
  by_cases g5 : wdB (st1 c 35 0) (stA c) (st1 c 34 0 6) 5 = true
  · rw [if_pos g5] at hK ⊢
    by_cases f : fuP (st1 c) 5
    · have f2 : pt5 (sm1 m) = roM (sm1 m) := by unfold pt5; unfold fuP at f; rw [if_neg (by omega)]
      rw [f2]; exact full 5 hK (by decide) f
    · rw [good 5 hK (by decide) f]
      unfold fuP at f
      exact R_rd5 R qe qB wM wN qD (by omega) (by omega)
  rw [if_neg g5] at hK ⊢
  by_cases g6 : wdB (st1 c 35 0) (stA c) (st1 c 34 0 6) 6 = true
  · rw [if_pos g6] at hK ⊢
    by_cases f : fuP (st1 c) 6
    · have f2 : pt6 (sm1 m) = roM (sm1 m) := by unfold pt6; unfold fuP at f; rw [if_neg (by omega)]
      rw [f2]; exact full 6 hK (by decide) f
    · rw [good 6 hK (by decide) f]
      unfold fuP at f
      exact R_rd6 R qe qB wM wN qD (by omega) (by omega)
  rw [if_neg g6] at hK ⊢
  exact fail1 (Or.inl hK)
/-- the draft at its start -/
theorem DR_init {c : Mem} {N : Int → Int} (z : ∀ j, 2 ≤ j → j < 7 → c 22 3 j = 0) (z0 : ∀ j, 0 ≤ j → j < 4 → c 0 4 j = 0) (z1 : c 1 4 0 = 0) (z2 : c 2 4 0 = 0) (z26 : ∀ j, c 26 3 j = 0) (z27 : ∀ j, c 27 3 j = -1) (h0 : N 0 = c 22 3 0) (h1 : N 1 = c 22 3 1) (b0 : 1 ≤ c 22 3 0 ∧ c 22 3 0 ≤ 10000) (b1 : 1 ≤ c 22 3 1 ∧ c 22 3 1 ≤ 10000) (hN : ∀ j, 2 ≤ j → j < 430 → N j = 0) : DRN c N := by
  have p2 := z 2 (by decide) (by decide)
  have p3 := z 3 (by decide) (by decide)
  have p4 := z 4 (by decide) (by decide)
  have p5 := z 5 (by decide) (by decide)
  have p6 := z 6 (by decide) (by decide)
  have t0 := z0 0 (by decide) (by decide)
  have t1 := z0 1 (by decide) (by decide)
  have t2 := z0 2 (by decide) (by decide)
  have t3 := z0 3 (by decide) (by decide)
  have k2 := hN 2 (by decide) (by decide)
  have k3 := hN 3 (by decide) (by decide)
  have k4 := hN 4 (by decide) (by decide)
  have k5 := hN 5 (by decide) (by decide)
  have k6 := hN 6 (by decide) (by decide)
  have k7 := hN 7 (by decide) (by decide)
  have k8 := hN 8 (by decide) (by decide)
  have k9 := hN 9 (by decide) (by decide)
  have k10 := hN 10 (by decide) (by decide)
  have k11 := hN 11 (by decide) (by decide)
  have k12 := hN 12 (by decide) (by decide)
  have k13 := hN 13 (by decide) (by decide)
  refine ⟨⟨b0, b1, by omega, by omega, by omega, by omega, by omega, fun q a b => by exfalso; omega, fun f a b => by exfalso; omega, fun q hh a b => by exfalso; omega, fun x y a b => by exfalso; omega, fun k a b => by exfalso; omega⟩,
    ⟨by omega, fun q a b => by exfalso; omega, fun k a b => by exfalso; omega, ⟨by omega, fun t a b => by exfalso; omega⟩, ⟨by omega, fun l a b => by exfalso; omega⟩, fun k a b => by exfalso; omega⟩,
    ⟨⟨h0, h1, by omega, by omega, by omega, by omega, by omega⟩, fun q a b => by exfalso; omega, fun f a b => by exfalso; omega, fun q hh a b => by exfalso; omega, fun x y a b => by exfalso; omega, fun k a b => by exfalso; omega, ⟨by omega, by omega, fun s a b => by exfalso; omega, fun k a b => by exfalso; omega⟩⟩,
    ⟨⟨by omega, by omega, by omega, ?_, by omega, by omega, by omega⟩, fun q a b => by exfalso; omega, fun q a b => by exfalso; omega, fun k a b => by exfalso; omega, fun t a b => by exfalso; omega, fun k a b => by exfalso; omega, fun l a b => by exfalso; omega⟩,
    fun k a b => by exfalso; omega, fun s a b => by exfalso; omega, fun k a b => by exfalso; omega, fun q hh _ _ _ _ => z26 _, fun a b _ _ _ _ _ => z27 _, ⟨fun j a b => hN j (by omega) (by omega), fun j a b => hN j (by omega) (by omega), fun j a b => hN j (by omega) (by omega), fun j a b => hN j (by omega) (by omega)⟩, ⟨t0, z2, t2, t3, ?_⟩, fun k a b => by exfalso; omega, fun t a b => by exfalso; omega, fun q a b => by exfalso; omega⟩
  · rw [k12, p5]; rfl
  · rw [t1, p2]; rfl
theorem Rd_start {c m : Mem} (ht : c 35 0 = m 48 0) (hl : c 34 0 5 = m 41 0 9) : Rd (ld0 c) (lo0 m) :=
  ⟨by rw [ld0_k (.inl rfl)]; exact ht, hl, rfl, rfl, fun _ => rfl, fun z => absurd rfl z⟩
theorem R_first {c m : Mem} (ht : c 35 0 = m 48 0) (hl : c 34 0 5 = m 41 0 9) (hB : RW c) (hM : MW m) : SO (stM (ld0 c)) (pt0 (lo0 m)) := by
  have h := Rd_start ht hl
  have e : ld0 c 34 0 1 = 0 := rfl
  have hB0 := RB_ld0 hB
  have hM0 := MB_lo0 hM
  obtain ⟨R, r2, r3⟩ := R_st1 h e
  have qe : st1 (ld0 c) 34 0 1 = 0 := by rw [st1_j (by decide)]; exact e
  have qB := RB_st1 hB0
  have hs : ld0 c 34 0 3 = 0 := rfl
  have hW : wdB (rsM (lo0 m) 48 0) (rsM (lo0 m) 41 0 11) (rsM (lo0 m) 41 0 10) 0 = wdB (st1 (ld0 c) 35 0) (stA (ld0 c)) (st1 (ld0 c) 34 0 6) 0 := by rw [← r2, ← r3, ← R.1]
  have hK : stK (ld0 c) = kdN (st1 (ld0 c) 35 0) (stA (ld0 c)) (st1 (ld0 c) 34 0 6) := rfl
  unfold kdN at hK
  have ep : pt0 (lo0 m) = snM (snM (p0r (lo0 m)) 0 1 10000) 1 1 10000 := rfl
  rw [ep]
  by_cases g : wdB (st1 (ld0 c) 35 0) (stA (ld0 c)) (st1 (ld0 c) 34 0 6) 0 = true
  · have e1 : p0r (lo0 m) = rsM (lo0 m) := by unfold p0r; rw [hW, if_pos g]
    rw [if_pos g] at hK
    have e2 : stM (ld0 c) = rd0 (st1 (ld0 c)) := by
      unfold stM
      rw [if_neg (fun z => by
        rcases z with z | z
        · omega
        · exact z ⟨fun _ => hs, fun _ => hK⟩), hK, if_neg (by unfold fuP; omega)]
      rfl
    rw [e1, e2]
    obtain ⟨A1, A2⟩ := R_sn (j := 0) (lo := 1) (hi := 10000) (lo' := 1) (hi' := 10000) R qB (MB_rs hM0) (fun _ => ⟨rfl, rfl, by decide⟩)
    obtain ⟨B1, B2⟩ := R_sn (j := 1) (lo := 1) (hi := 10000) (lo' := 1) (hi' := 10000) A1 (RB_num qB) (MB_sn (MB_rs hM0)) (fun _ => ⟨rfl, rfl, by decide⟩)
    unfold rd0
    by_cases z : numM (numM (st1 (ld0 c)) 1 10000) 1 10000 34 0 1 = 0
    · rw [if_pos z]
      have o2 := num_ok z
      have o1 := num_ok o2.1
      refine ⟨Rd_lo B1 (by rw [up3_k (by decide), up3_k (by decide)]) (by rw [up3_k (by decide), up3_k (by decide)]), fun _ => ?_⟩
      have kk : ∀ {k : Nat}, k ≠ 34 → numM (numM (st1 (ld0 c)) 1 10000) 1 10000 k = ld0 c k := fun hk => by rw [numM_k hk, numM_k hk, st1_k hk]
      have row : ∀ j : Int, snM (snM (rsM (lo0 m)) 0 1 10000) 1 1 10000 43 0 j = if j = 1 then numV (numM (st1 (ld0 c)) 1 10000) 1 10000 else if j = 0 then numV (st1 (ld0 c)) 1 10000 else lo0 m 43 0 j := fun j => by
        rw [snM_a, snM_a, ← B2 z, ← A2 o2.1]
        have : rsM (lo0 m) 43 0 j = lo0 m 43 0 j := by unfold rsM; rw [mcM_k (by decide), nxM_k (by decide)]
        rw [this]
      refine DR_init (fun j a b => ?_) (fun j a b => ?_) ?_ ?_ (fun j => ?_) (fun j => ?_) ?_ ?_ ?_ ?_ (fun j a b => ?_)
      · rw [up3_off (by omega), up3_off (by omega), kk (by decide)]
        have : j = 2 ∨ j = 3 ∨ j = 4 ∨ j = 5 ∨ j = 6 := by omega
        rcases this with rfl | rfl | rfl | rfl | rfl <;> rfl
      · rw [up3_k (by decide), up3_k (by decide), kk (by decide)]
        have : j = 0 ∨ j = 1 ∨ j = 2 ∨ j = 3 := by omega
        rcases this with rfl | rfl | rfl | rfl <;> rfl
      · rw [up3_k (by decide), up3_k (by decide), kk (by decide)]; rfl
      · rw [up3_k (by decide), up3_k (by decide), kk (by decide)]; rfl
      · rw [up3_k (by decide), up3_k (by decide), kk (by decide)]; rfl
      · rw [up3_k (by decide), up3_k (by decide), kk (by decide)]; rfl
      · rw [row, if_neg (by decide), if_pos rfl, up3_off (by decide), up3_at]
      · rw [row, if_pos rfl, up3_at]
      · rw [up3_off (by decide), up3_at]; exact o1.2
      · rw [up3_at]; exact o2.2
      · rw [row, if_neg (by omega), if_neg (by omega)]; exact lo0_43 j a b
    · rw [if_neg z]
      exact ⟨B1, fun y => absurd y z⟩
  · have e1 : p0r (lo0 m) = faM (rsM (lo0 m)) 1 := by unfold p0r; rw [hW, if_neg g]
    rw [if_neg g] at hK
    have k0 : stK (ld0 c) ≠ 0 := by
      rw [hK]
      repeat' split
      all_goals omega
    have e2 : stM (ld0 c) = failM (st1 (ld0 c)) 1 (stA (ld0 c)) := by
      unfold stM
      rw [if_pos (Or.inr (fun z => k0 (z.mpr hs)))]
    rw [e1, e2]
    have F : Rd (failM (st1 (ld0 c)) 1 (stA (ld0 c))) (faM (rsM (lo0 m)) 1) := R_fail R (by decide) (fun _ => r2)
    have ne : failM (st1 (ld0 c)) 1 (stA (ld0 c)) 34 0 1 ≠ 0 := failM_e (by decide)
    have same : ∀ lo hi, numM (failM (st1 (ld0 c)) 1 (stA (ld0 c))) lo hi = failM (st1 (ld0 c)) 1 (stA (ld0 c)) := fun lo hi => by unfold numM; rw [if_neg ne]
    have fB := RB_fail (k := 1) (q := stA (ld0 c)) qB (by decide)
    have fM := MB_fa (k := 1) (MB_rs hM0) (by decide)
    have A1 := (R_sn (j := 0) (lo := 1) (hi := 10000) (lo' := 1) (hi' := 10000) F fB fM (fun z => absurd z ne)).1
    rw [same] at A1
    have B1 := (R_sn (j := 1) (lo := 1) (hi := 10000) (lo' := 1) (hi' := 10000) A1 fB (MB_sn fM) (fun z => absurd z ne)).1
    rw [same] at B1
    exact ⟨B1, fun z => absurd z ne⟩
/-- from statement to statement -/
theorem R_semi {c m : Mem} (h : Rd c m) (hB : RB c) (hM : MB m) : (seP c ↔ moP m) ∧ (seP c → Rd (nxt c) (moM m) ∧ nxt c 34 0 1 = 0 ∧ nxt c 34 0 3 = c 34 0 3 + 1 ∧ c 34 0 6 < nxt c 34 0 6) ∧ (¬ seP c → Rd (seM c) (moM m)) := by
  by_cases e : c 34 0 1 = 0
  · have e' : m 41 0 12 = 0 := by rw [← h.2.2.2.1]; exact e
    obtain ⟨n1, n2, n3⟩ := R_nx h e
    have S : Rd (skM c) (nxM m) := by
      have a := R_sc (p := bS) h e
      exact Rd_m11 a
    have e1 : skM c 34 0 1 = 0 := by unfold skM; rw [scM_j (by decide)]; exact e
    have s6 := S.2.2.2.2.1 e1
    have hB1 : RB (skM c) := RB_sc hB
    have b1 := hB1.1
    have b2 := hB1.2.1
    have e35 : skM c 35 = c 35 := scM_k (by decide)
    have hh : hrV (nxM m) = if skM c 34 0 6 < skM c 34 0 5 then c 35 0 (skM c 34 0 6) % 256 else -1 := by
      unfold hrV
      rw [← s6, ← S.2.1, ← S.1, e35]
    have sb := scF_b (c 35 0) bS (c 34 0 5 - c 34 0 6).toNat (c 34 0 6)
    have sa : skM c 34 0 6 = scF (c 35 0) bS (c 34 0 5 - c 34 0 6).toNat (c 34 0 6) := by unfold skM scM; exact up3_at
    have begin_ : nxM m 41 0 11 = skM c 34 0 6 := by rw [← n2, n3]; unfold num1; rw [up3_off (by decide)]
    by_cases g : skM c 34 0 6 < skM c 34 0 5
    · have tx := hB.2.2.1 (skM c 34 0 6) (by omega) (by omega)
      rw [if_pos g] at hh
      by_cases y : c 35 0 (skM c 34 0 6) = 59
      · have sp : seP c := ⟨e, g, y⟩
        have hv : hrV (nxM m) = 59 := by rw [hh, y]; rfl
        have mp : moP m := ⟨e', by omega, hv⟩
        refine ⟨⟨fun _ => mp, fun _ => sp⟩, fun _ => ?_, fun z => absurd sp z⟩
        have ec : nxt c = up3 (up3 (skM c) 34 0 6 (skM c 34 0 6 + 1)) 34 0 3 (c 34 0 3 + 1) := by
          unfold nxt seM
          rw [if_pos e, if_pos g, if_pos y, up3_off (by decide)]
          rw [show skM c 34 0 3 = c 34 0 3 from by unfold skM; exact scM_j (by decide)]
        have em : moM m = up3 (up3 (nxM m) 41 0 10 (nxM m 41 0 10 + 1)) 41 0 14 (nxM m 41 0 14 + 1) := by
          unfold moM
          rw [if_pos e', if_pos (by omega), if_pos hv]
        rw [ec, em]
        refine ⟨⟨?_, ?_, ?_, ?_, fun _ => ?_, fun z => ?_⟩, ?_, ?_, ?_⟩
        · rw [up3_k (by decide), up3_k (by decide), up3_k (by decide), up3_k (by decide)]; exact S.1
        · rw [up3_off (by decide), up3_off (by decide), up3_off (by decide), up3_off (by decide)]; exact S.2.1
        · rw [up3_at, up3_at, nxM_j (by decide), h.2.2.1]
        · rw [up3_off (by decide), up3_off (by decide), up3_off (by decide), up3_off (by decide)]; exact S.2.2.2.1
        · rw [up3_off (by decide), up3_at, up3_off (by decide), up3_at, s6]
        · rw [up3_off (by decide), up3_off (by decide)] at z; exact absurd e1 z
        · rw [up3_off (by decide), up3_off (by decide)]; exact e1
        · rw [up3_at]
        · rw [up3_off (by decide), up3_at]; omega
      · have sp : ¬ seP c := fun z => y z.2.2
        have hv : hrV (nxM m) ≠ 59 := by rw [hh]; omega
        have mp : ¬ moP m := fun z => hv z.2.2
        refine ⟨⟨fun z => absurd z sp, fun z => absurd z mp⟩, fun z => absurd z sp, fun _ => ?_⟩
        unfold seM moM
        rw [if_pos e, if_pos g, if_neg y, if_pos e', if_pos (by omega), if_neg hv]
        exact R_fail S (by decide) (fun _ => begin_.symm)
    · rw [if_neg g] at hh
      have sp : ¬ seP c := fun z => g z.2.1
      have mp : ¬ moP m := fun z => by have := z.2.1; omega
      refine ⟨⟨fun z => absurd z sp, fun z => absurd z mp⟩, fun z => absurd z sp, fun _ => ?_⟩
      unfold seM moM
      rw [if_pos e, if_neg g, if_pos e', if_neg (by omega)]
      exact S
  · have e' : ¬ m 41 0 12 = 0 := by rw [← h.2.2.2.1]; exact e
    refine ⟨⟨fun z => absurd z.1 e, fun z => absurd z.1 e'⟩, fun z => absurd z.1 e, fun _ => ?_⟩
    unfold seM moM
    rw [if_neg e, if_neg e']
    exact h
theorem R_loop : ∀ (n : Nat) (f : Nat) (c m : Mem), SO c m → RB c → CB c → MB m → NB3 m → 0 ≤ c 34 0 3 → (c 34 0 1 = 0 → c 34 0 5 - c 34 0 6 ≤ n) → m 41 0 9 - m 41 0 10 ≤ f → SO (ldL c n) (moL m f) := by
  intro n
  induction n with
  | zero =>
    intro f c m h hB hC hM hN h3 hn hf
    have hl : ldL c 0 = c := rfl
    have hns : ¬ moP m := fun z => by
      have e : c 34 0 1 = 0 := by rw [h.1.2.2.2.1]; exact z.1
      have a := hn e
      have b := hB.2.1
      have d := h.1.2.2.2.2.1 e
      have l := h.1.2.1
      exact mo_no hM (by omega) z
    have hm : moL m f = moM m := by
      cases f with
      | zero => rfl
      | succ f => show (if _ then _ else _) = _; rw [if_neg hns]
    rw [hl, hm]
    have mj := (mo_ok hM).1
    have e43 : moM m 43 = m 43 := mj.2.1 43 (by decide)
    refine ⟨?_, fun z => by rw [e43]; exact h.2 z⟩
    by_cases e : c 34 0 1 = 0
    · have e' : m 41 0 12 = 0 := by rw [← h.1.2.2.2.1]; exact e
      have a := hn e
      have b := hB.2.1
      have hh : ¬ 0 ≤ hrV (nxM m) := fun z => by
        have y := hr_at z
        have k := MK_nx hM
        have k9 := k.2.2.1 9 (by omega)
        have k10 := k.2.2.2
        have d := h.1.2.2.2.2.1 e
        have l := h.1.2.1
        omega
      unfold moM
      rw [if_pos e', if_neg hh]
      have s := R_sc (p := bS) h.1 e
      have s2 : scM c bS = c := by
        have y : scM c bS = up3 c 34 0 6 (scF (c 35 0) bS (c 34 0 5 - c 34 0 6).toNat (c 34 0 6)) := rfl
        rw [y, show (c 34 0 5 - c 34 0 6).toNat = 0 by omega]
        exact up3_id
      rw [s2] at s
      exact Rd_m11 s
    · have e' : ¬ m 41 0 12 = 0 := by rw [← h.1.2.2.2.1]; exact e
      unfold moM
      rw [if_neg e']
      exact h.1
  | succ n ih =>
    intro f c m h hB hC hM hN h3 hn hf
    obtain ⟨s1, s2, s3⟩ := R_semi h.1 hB hM
    have mo := mo_ok hM
    have e43 : moM m 43 = m 43 := mo.1.2.1 43 (by decide)
    have hN1 : NB3 (moM m) := hN.k e43
    by_cases g : seP c
    · have gm := s1.mp g
      obtain ⟨t1, t2, t3, t4⟩ := s2 g
      have mg := mo.2 gm
      have a9 := mo.1.2.2 9 (by omega)
      have e0 : c 34 0 1 = 0 := g.1
      cases f with
      | zero =>
        exfalso
        have b := hM.2.1
        exact mo_no hM (by omega) gm
      | succ f =>
        show SO (if _ then _ else _) (if _ then _ else _)
        rw [if_pos g, if_pos gm]
        have hDn : DRN (nxt c) (moM m 43 0) := by
          rw [e43]
          refine (h.2 e0).k (fun k hk => ?_)
          unfold nxt
          rw [up3_k (by omega)]
          exact seM_k (by omega)
        have st := R_stm t1 t2 (RB_nxt hB) (CB_nxt hC) mo.1.1 hN1 hDn (by rw [t3]; omega)
        have so := sm_ok mo.1.1 hN1
        have rk := RK_st (RB_nxt hB)
        have b9 := so.1.2.2.1 9 (by omega)
        have b10 := so.1.2.2.2
        have nl : nxt c 34 0 5 = c 34 0 5 := by unfold nxt; rw [up3_off (by decide)]; exact (RK_se hB).2.2.2
        refine ih f _ _ st rk.1 (CB_st (RB_nxt hB) (CB_nxt hC)) so.1.1 so.2 ?_ (fun z => ?_) (by omega)
        · rw [rk.2.2.1, t3]; omega
        · have y := st.1.2.2.2.2.1 z
          have y2 := t1.2.2.2.2.1 t2
          have y3 := hn e0
          rw [rk.2.2.2, nl, y]
          omega
    · have gm : ¬ moP m := fun z => g (s1.mpr z)
      have hm : moL m f = moM m := by
        cases f with
        | zero => rfl
        | succ f => show (if _ then _ else _) = _; rw [if_neg gm]
      have hc : ldL c (n + 1) = seM c := by show (if _ then _ else _) = _; rw [if_neg g]
      rw [hm, hc]
      refine ⟨s3 g, fun z => ?_⟩
      rw [e43]
      have e0 : c 34 0 1 = 0 := by
        by_cases y : c 34 0 1 = 0
        · exact y
        · unfold seM at z
          rw [if_neg y] at z
          exact z
      exact (h.2 e0).k (fun k hk => seM_k (by omega))
/-- what load leaves on both sides -/
theorem R_load {c m : Mem} (ht : c 35 0 = m 48 0) (hl : c 34 0 5 = m 41 0 9) (hB : RW c) (hM : MW m) : SO (ldL (stM (ld0 c)) (stM (ld0 c) 34 0 5).toNat) (loE m) := by
  have f := R_first ht hl hB hM
  have rk := RK_st (RB_ld0 hB)
  have po := pt0_ok (MB_lo0 hM) NB3_lo0
  have b := rk.1.1
  have b2 := rk.1.2.1
  have p1 := po.1.1.1
  have p2 := po.1.1.2.1
  have e3 : stM (ld0 c) 34 0 3 = 0 := rk.2.2.1
  exact R_loop _ 500 _ _ f rk.1 (CB_st (RB_ld0 hB) CB_ld0) po.1.1 po.2 (by rw [e3]; decide) (fun _ => by omega) (by omega)
