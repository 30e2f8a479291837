/-! the first statement, and the whole load -/
theorem rdK_0 (q : Mem) : rdK q ((0 : Nat) : Int) = rd0 q := if_pos rfl
theorem ld0_v (m : Mem) : (∀ j, 2 ≤ j → j < 7 → ld0 m 22 3 j = 0) ∧ (∀ j, 0 ≤ j → j < 4 → ld0 m 0 4 j = 0) ∧ ld0 m 1 4 0 = 0 ∧ ld0 m 2 4 0 = 0 ∧ (∀ j, ld0 m 26 3 j = 0) ∧ (∀ j, ld0 m 27 3 j = -1) ∧ ld0 m 34 0 5 = m 34 0 5 ∧ ld0 m 34 0 6 = 0 ∧ ld0 m 34 0 1 = 0 ∧ ld0 m 34 0 3 = 0 := by
  have a : ∀ k, k ≠ 34 → ld0 m k = clrS (clrP m 3) 4 k := fun k hk => by unfold ld0; rw [up3_k hk, up3_k hk, up3_k hk, up3_k hk]
  have b : ∀ k, 3 ≤ k → clrS (clrP m 3) 4 k = clrP m 3 k := fun k hk => by unfold clrS; rw [up3_k (by omega), up3_k (by omega), up3_k (by omega), up3_k (by omega), up3_k (by omega), up3_k (by omega)]
  have f : ∀ (m' : Mem) (k i : Nat) (z : Int) (k' : Nat), k' ≠ k → fiA m' k i z k' = m' k' := fun m' k i z k' hk => by
    funext i' j
    unfold fiA
    rw [if_neg (fun q => hk q.1)]
  have f2 : ∀ (m' : Mem) (k i : Nat) (z j : Int), fiA m' k i z k i j = z := fun m' k i z j => by
    unfold fiA
    rw [if_pos ⟨rfl, rfl⟩]
  refine ⟨fun j j0 j1 => ?_, fun j j0 j1 => ?_, ?_, ?_, fun j => ?_, fun j => ?_, ?_, ?_, ?_, ?_⟩
  · rw [a 22 (by decide), b 22 (by decide)]
    unfold clrP
    rw [f _ _ _ _ _ (by decide), f _ _ _ _ _ (by decide)]
    simp only [up3_apply]
    have : j = 2 ∨ j = 3 ∨ j = 4 ∨ j = 5 ∨ j = 6 := by omega
    rcases this with e | e | e | e | e <;> subst e <;> rfl
  · rw [a 0 (by decide)]
    unfold clrS
    simp only [up3_apply]
    have : j = 0 ∨ j = 1 ∨ j = 2 ∨ j = 3 := by omega
    rcases this with e | e | e | e <;> subst e <;> rfl
  · rw [a 1 (by decide)]
    unfold clrS
    rw [up3_k (by decide), up3_at]
  · rw [a 2 (by decide)]
    unfold clrS
    rw [up3_at]
  · rw [a 26 (by decide), b 26 (by decide)]
    unfold clrP
    rw [f _ _ _ _ _ (by decide), f2]
  · rw [a 27 (by decide), b 27 (by decide)]
    unfold clrP
    rw [f2]
  · unfold ld0
    rw [up3_off (by decide), up3_off (by decide), up3_off (by decide), up3_off (by decide), b 34 (by decide)]
    unfold clrP
    rw [f _ _ _ _ _ (by decide), f _ _ _ _ _ (by decide), up3_k (by decide), up3_k (by decide), up3_k (by decide), up3_k (by decide), up3_k (by decide)]
  · unfold ld0
    rw [up3_at]
  · unfold ld0
    rw [up3_off (by decide), up3_off (by decide), up3_off (by decide), up3_at]
  · unfold ld0
    rw [up3_off (by decide), up3_at]
/-- the law's row behind the first statement -/
def p0N (f w : Int) : Int → Int := upN (upN n0 0 f) 1 w
theorem p0N_o {f w j : Int} (h : 2 ≤ j) : p0N f w j = 0 := by
  unfold p0N n0
  rw [upN_off (by omega), upN_off (by omega), upN_off (by omega), upN_off (by omega)]
theorem PR.first {f w : Int} (hf : 1 ≤ f ∧ f < 1000) (hw : 1 ≤ w ∧ w < 1000) : PR ([112, 97, 99, 107, 115] ++ NS [f, w]) (p0N f w) := by
  intro m hB hT hl hE
  obtain ⟨T, eT⟩ : ∃ T, m 35 0 = T := ⟨_, rfl⟩
  obtain ⟨len, eL⟩ : ∃ len, m 34 0 5 = len := ⟨_, rfl⟩
  rw [eT] at hT hE ⊢
  rw [eL] at hl hE ⊢
  have t1 := (TXat_app [112, 97, 99, 107, 115] 0).mp hT
  rw [List.length_append] at hl hE ⊢
  have e5 : (([112, 97, 99, 107, 115] : List Int).length : Int) = 5 := rfl
  have h5 : ([112, 97, 99, 107, 115] : List Int).length = 5 := rfl
  rw [e5] at t1
  rw [h5] at hl hE ⊢
  obtain ⟨z2, z0, z1, zz, z26, z27, y5, y6, y1, y3⟩ := ld0_v m
  have A0 : AT (ld0 m) T len 0 := ⟨RB_ld0 hB, by rw [ld0_k (.inl rfl)]; exact eT, by rw [y5]; exact eL, y6, y1⟩
  have v := sL_v
  have hwd : ∀ j : Nat, (j : Int) < sL 0 → T (0 + (j : Int)) = sB 0 j := fun j hj => by
    have hj' : j < 5 := by omega
    obtain ⟨a0, a1, a2, a3, a4, -⟩ := t1.1
    match j, hj' with
    | 0, _ => exact a0.trans (by decide)
    | 1, _ => exact a1.trans (by decide)
    | 2, _ => exact a2.trans (by decide)
    | 3, _ => exact a3.trans (by decide)
    | 4, _ => exact a4.trans (by decide)
    | n + 5, h => exact absurd h (by omega)
  have hN : 1 ≤ ((NS [f, w]).length : Int) := by
    show 1 ≤ ((32 :: (dg f ++ NS [w])).length : Int)
    rw [List.length_cons]
    omega
  have t32 : T (0 + sL 0) = 32 := by
    have := t1.2.1
    rw [v.1]
    exact this
  have W := A0.word (i := 0) (by decide) (.inl rfl) hwd t32 (by omega)
  have A1 : AT (st1 (ld0 m)) T len 5 := by
    have := W.2.2
    rw [show (0 : Int) + sL 0 = 5 by omega] at this
    exact this
  have ns : ¬ stP (ld0 m) := by
    unfold stP
    rw [W.2.1, y3]
    intro z
    rcases z with z | z
    · exact absurd z (by decide)
    · exact z ⟨fun _ => rfl, fun _ => rfl⟩
  have nf : ¬ fuP (st1 (ld0 m)) ((0 : Nat) : Int) := fun z => by unfold fuP at z; omega
  obtain ⟨q, eq⟩ : ∃ q, st1 (ld0 m) = q := ⟨_, rfl⟩
  have eM : stM (ld0 m) = rd0 q := by
    unfold stM
    rw [if_neg ns, W.2.1, if_neg nf, rdK_0, eq]
  rw [eq] at A1
  have N0 : NP T len 5 [f, w] ((5 + (NS [f, w]).length : Nat) : Int) := ⟨by have := t1.2; rw [show (0 : Int) + 5 = 5 by omega] at this; exact this, by omega, by omega, hE.nd⟩
  obtain ⟨e0, p1, B1, N1, -⟩ := A1.np N0 (by omega) hf.2 (lo := 1) (hi := 10000) hf.1 (by omega)
  obtain ⟨e1, p2, B2, N2, -⟩ := B1.np N1 (by omega) hw.2 (lo := 1) (hi := 10000) hw.1 (by omega)
  have pe := N2.nil
  obtain ⟨c, ec⟩ : ∃ c, numM (numM q 1 10000) 1 10000 = c := ⟨_, rfl⟩
  rw [ec] at B2
  have eR : rd0 q = up3 (up3 c 22 3 0 f) 22 3 1 w := by
    unfold rd0
    rw [ec, if_pos B2.2.2.2.2, e0, e1]
  have kc : ∀ k, k ≠ 34 → c k = ld0 m k := fun k hk => by rw [← ec, numM_k hk, numM_k hk, ← eq, st1_k hk]
  refine ⟨stM (ld0 m), 0, fun n => by rw [Nat.zero_add], Nat.zero_le _, CB_st (RB_ld0 hB) CB_ld0, .inl ?_, ?_, ?_⟩
  · rw [eM, eR, ← pe]
    exact B2.k (by rw [up3_k (by decide), up3_k (by decide)]) (by rw [up3_k (by decide), up3_k (by decide)])
  · rw [(RK_st (RB_ld0 hB)).2.2.1, y3]
    exact Int.le_refl 0
  · rw [eM, eR]
    refine DR_init (fun j j0 j1 => ?_) (fun j j0 j1 => ?_) ?_ ?_ (fun j => ?_) (fun j => ?_) ?_ ?_ ?_ ?_ (fun j j0 j1 => p0N_o j0)
    · rw [up3_off (by omega), up3_off (by omega), kc 22 (by decide)]; exact z2 j j0 j1
    · rw [up3_k (by decide), up3_k (by decide), kc 0 (by decide)]; exact z0 j j0 j1
    · rw [up3_k (by decide), up3_k (by decide), kc 1 (by decide)]; exact z1
    · rw [up3_k (by decide), up3_k (by decide), kc 2 (by decide)]; exact zz
    · rw [up3_k (by decide), up3_k (by decide), kc 26 (by decide)]; exact z26 j
    · rw [up3_k (by decide), up3_k (by decide), kc 27 (by decide)]; exact z27 j
    · rw [up3_off (by decide), up3_at]; unfold p0N; rw [upN_off (by decide), upN_at]
    · rw [up3_at]; unfold p0N; rw [upN_at]
    · rw [up3_off (by decide), up3_at]; omega
    · rw [up3_at]; omega
/-- the whole text is read -/
theorem PR.load {L : List Int} {N : Int → Int} (hP : PR L N) {m : Mem} (hB : RW m) (hl : m 34 0 5 = (L.length : Int)) (hT : TXat (m 35 0) 0 L) : txM m 34 0 1 = 0 ∧ DRN (txM m) N := by
  obtain ⟨m1, k, g1, g2, g3, g4, g5, g6⟩ := hP m hB hT (by omega) (.inl hl.symm)
  have A : AT m1 (m 35 0) (m 34 0 5) (L.length : Int) := by
    rcases g4 with g | g
    · exact g
    · have := g.1.b
      omega
  have K := RK_st (RB_ld0 hB)
  have e5 : stM (ld0 m) 34 0 5 = (L.length : Int) := by
    rw [K.2.2.2, (ld0_v m).2.2.2.2.2.2.1]
    exact hl
  have S := (A.sc (b := bS) 0 (by omega) (fun j hj => absurd hj (by omega)) (.inl (by omega))).2
  have S' : AT (skM m1) (m 35 0) (m 34 0 5) ((L.length : Int) + ((0 : Nat) : Int)) := S
  have no : ¬ skM m1 34 0 6 < skM m1 34 0 5 := by
    rw [S'.2.2.2.1, S'.2.2.1]
    omega
  have eS : seM m1 = skM m1 := by
    unfold seM
    rw [if_pos A.2.2.2.2, if_neg no]
  have hz : ∀ n, ldL m1 n 34 0 1 = 0 ∧ DRN (ldL m1 n) N := fun n => by
    match n with
    | 0 => exact ⟨A.2.2.2.2, g6⟩
    | n + 1 =>
      have e : ldL m1 (n + 1) = skM m1 := by
        show (if seP m1 then ldL (stM (nxt m1)) n else seM m1) = skM m1
        rw [if_neg (fun z => no z.2.1), eS]
      rw [e]
      exact ⟨S'.2.2.2.2, g6.k (fun k hk => scM_k (by omega))⟩
  have hx := hz (L.length - k)
  rw [← g1, show k + (L.length - k) = L.length by omega] at hx
  have eX : txM m = up3 (ldL (stM (ld0 m)) L.length) 34 0 5 0 := by
    unfold txM
    rw [e5, Int.toNat_natCast]
  rw [eX]
  exact ⟨by rw [up3_off (by decide)]; exact hx.1, hx.2.k (fun k hk => up3_k (by omega))⟩
/-- the class behind the load -/
theorem load_SH {m : Mem} {N : Int → Int} (h : DRN (txM m) N) (h36 : 0 ≤ m 36 0 1 ∧ m 36 0 1 < 8) : SH (ldX m) N 0 ∧ ldX m 36 0 0 = 0 ∧ txM m 22 3 2 = N 3 := by
  have S : ST (txM m) 3 4 N 0 := ST_draft h
  have x36 : ldX m 36 0 0 = 0 ∧ ldX m 36 0 1 = m 36 0 1 := by
    unfold ldX
    refine ⟨by rw [up3_at], ?_⟩
    rw [up3_off (by decide), cpS_hi (by decide), cpP_hi (by omega), FD_txM (m := m) 36 0 (by omega) (by omega) (by omega)]
  refine ⟨⟨S.mv (fun k hk => ?_) (fun k h1 h2 => ?_), ?_, ?_⟩, x36.1, h.cnt.1.symm⟩
  · unfold ldX; rw [up3_k (by omega), cpS_lo hk, cpP_hi (by omega)]
  · unfold ldX; rw [up3_k (by omega), cpS_hi h1, cpP_lo h1 h2]
  · rw [x36.1]; omega
  · rw [x36.2]; exact h36
theorem load_err {m : Mem} : ldX m 34 0 1 = txM m 34 0 1 := by
  unfold ldX
  rw [up3_k (by decide), cpS_hi (by decide), cpP_hi (by omega)]
