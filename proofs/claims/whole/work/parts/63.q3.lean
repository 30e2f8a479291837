/-! a statement read by both readers -/
theorem Rd_scE {c m : Mem} {p : Int → Bool} (h : Rd c m) (e : c 34 0 1 ≠ 0) : Rd (scM c p) m := by
  obtain ⟨h1, h2, h3, h4, h5, h6⟩ := h
  refine ⟨?_, ?_, ?_, ?_, fun z => ?_, fun z => ?_⟩
  · rw [scM_k (by decide)]; exact h1
  · rw [scM_j (by decide)]; exact h2
  · rw [scM_j (by decide)]; exact h3
  · rw [scM_j (by decide)]; exact h4
  · rw [scM_j (by decide)] at z; exact absurd z e
  · rw [scM_j (by decide)]; exact h6 e
theorem Rd_43 {c m : Mem} {j z : Int} (h : Rd c m) : Rd c (up3 m 43 0 j z) := h.k rfl rfl (up3_k (by decide)) (up3_k (by decide))
theorem Rd_lo {c c' m : Mem} (h : Rd c m) (e : c' 34 = c 34) (e2 : c' 35 = c 35) : Rd c' m := h.k e e2 rfl rfl
theorem R_sn {c m : Mem} {lo hi lo' hi' j : Int} (h : Rd c m) (hB : RB c) (hM : MB m) (hl : c 34 0 1 = 0 → lo' = lo ∧ hi' = hi ∧ hi ≤ 100000) :
    Rd (numM c lo hi) (snM m j lo' hi') ∧ (numM c lo hi 34 0 1 = 0 → numV c lo hi = nuV m lo' hi') := by
  have a := R_num h hB hM hl
  exact ⟨Rd_43 a.1, fun z => (a.2 z).1⟩
/-- a statement's outcome -/
def SO (c m : Mem) : Prop := Rd c m ∧ (c 34 0 1 = 0 → DRN c (m 43 0))
theorem dig_iff {c m : Mem} (h : Rd c m) (hB : RB c) (e : c 34 0 1 = 0) : dgP c ↔ (48 ≤ hrV m ∧ hrV m ≤ 57) := by
  unfold hrV
  rw [← h.2.2.2.2.1 e, ← h.2.1, ← h.1]
  have b1 := hB.1
  have b2 := hB.2.1
  by_cases q : c 34 0 6 < c 34 0 5
  · rw [if_pos q]
    have tx := hB.2.2.1 (c 34 0 6) (by omega) (by omega)
    unfold dgP
    omega
  · rw [if_neg q]
    unfold dgP
    omega
theorem R_rd2 {q w : Mem} (h : Rd q w) (e : q 34 0 1 = 0) (hB : RB q) (hM : MB w) (hN : NB3 w) (hD : DRN q (w 43 0)) (hl : w 43 0 3 < 8) (hl2 : q 22 3 2 < 8) : SO (rd2 q) (pt2 w) := by
  have n3 := hN.1
  have q0 : pq2 w = 30 + 7 * w 43 0 3 := rfl
  obtain ⟨A1, A2⟩ := R_sn (j := pq2 w + 0) (lo' := 2) (hi' := 100000) h hB hM (lo := 2) (hi := 100000) (fun _ => ⟨rfl, rfl, by decide⟩)
  have hB1 : RB (numM q 2 100000) := RB_num hB
  have hM1 : MB (pa1 w) := MB_sn hM
  have hv1 : pa1 w 43 0 (pq2 w + 0) = nuV w 2 100000 := by unfold pa1; rw [snM_a, if_pos rfl]
  obtain ⟨B1, B2⟩ := R_sn (c := numM q 2 100000) (m := pa1 w) (j := pq2 w + 1) (lo := 0) (hi := numV q 2 100000) (lo' := 0) (hi' := pa1 w 43 0 (pq2 w + 0)) A1 hB1 hM1 (fun z => ⟨rfl, by rw [hv1, A2 z], (num_ok z).2.2⟩)
  have hB2 : RB (pk2 q) := RB_pk2 hB
  have hM2 : MB (pa2 w) := MB_pa2 hM
  have e12 : pk2 q 34 0 1 = pa2 w 41 0 12 := B1.2.2.2.1
  have C : Rd (pk3 q) (pa3 w) := by
    unfold pk3 pa3
    by_cases z : pk2 q 34 0 1 = 0
    · rw [if_pos (by rw [← e12]; exact z)]
      exact Rd_m11 (R_sc B1 z)
    · rw [if_neg (by rw [← e12]; exact z)]
      exact Rd_scE B1 z
  have e3 : pk3 q 34 0 1 = pk2 q 34 0 1 := by unfold pk3 skM; exact scM_j (by decide)
  have row3 : pa3 w 43 0 = pa2 w 43 0 := congrFun pa3_43 0
  have c4 : q 22 3 3 = w 43 0 4 := hD.2.2.1.1.2.2.2.1.symm
  have n4 := hN.2.1
  have e4 : pa3 w 43 0 4 = pk3 q 22 3 3 := by rw [row3, pa2_lo (by decide) (by omega), pk3_k (by decide)]; exact c4.symm
  have D : Rd (pk4 q) (pa4 w) ∧ (pk4 q 34 0 1 = 0 → pk3 q 34 0 1 = 0 ∧ pa4 w 43 0 (pq2 w + 3) = pkv q ∧ (pkv q = -1 ∨ 0 ≤ pkv q ∧ pkv q < q 22 3 3)) := by
    by_cases z : pk3 q 34 0 1 = 0
    · have dd := dig_iff C (RB_pk3 hB) z
      by_cases g : dgP (pk3 q)
      · have g2 : paD w := ⟨by rw [← e12, ← e3]; exact z, (dd.mp g).1, (dd.mp g).2⟩
        obtain ⟨X1, X2⟩ := R_sn (j := pq2 w + 3) (lo := 0) (hi := pk3 q 22 3 3 - 1) (lo' := 0) (hi' := pa3 w 43 0 4 - 1) C (RB_pk3 hB) (MB_pa3 hM) (fun _ => ⟨rfl, by rw [e4], by rw [← e4, row3, pa2_lo (by decide) (by omega)]; omega⟩)
        unfold pk4 pa4 pkv
        rw [if_pos g, if_pos g2, if_pos g]
        refine ⟨X1, fun y => ⟨z, ?_, ?_⟩⟩
        · rw [snM_a, if_pos rfl, X2 y]
        · have := (num_ok y).2
          rw [pk3_k (by decide)] at this ⊢
          right; omega
      · have g2 : ¬ paD w := fun y => g (dd.mpr ⟨y.2.1, y.2.2⟩)
        unfold pk4 pa4 pkv
        rw [if_neg g, if_neg g2, if_neg g]
        exact ⟨Rd_43 C, fun y => ⟨z, up3_at, Or.inl rfl⟩⟩
    · have g2 : ¬ paD w := fun y => z (by rw [e3, e12]; exact y.1)
      unfold pk4 pa4
      rw [if_neg g2]
      by_cases g : dgP (pk3 q)
      · rw [if_pos g]
        have y : numM (pk3 q) 0 (pk3 q 22 3 3 - 1) = pk3 q := by unfold numM; rw [if_neg z]
        rw [y]
        exact ⟨Rd_43 C, fun y => absurd y z⟩
      · rw [if_neg g]
        exact ⟨Rd_43 C, fun y => absurd y z⟩
  have ep : pt2 w = up3 (pa5 w) 43 0 3 (pa5 w 43 0 3 + 1) := by unfold pt2; rw [if_pos hl]
  rw [ep]
  unfold rd2
  by_cases z : pk4 q 34 0 1 = 0
  · rw [if_pos z]
    obtain ⟨z3, v4, vb⟩ := D.2 z
    have z2 : pk2 q 34 0 1 = 0 := by rw [← e3]; exact z3
    have o2 := num_ok z2
    have o1 := num_ok o2.1
    refine ⟨?_, fun _ => ?_⟩
    · refine Rd_lo (Rd_43 (Rd_43 D.1)) ?_ ?_
      · rw [addP_k (by decide), begP_k (by decide)]
      · rw [addP_k (by decide), begP_k (by decide)]
    · have hD4 : DRN (pk4 q) (w 43 0) := hD.k (fun k hk => pk4_k (by omega))
      have eC : nuV w 2 100000 = pkc q := (A2 o2.1).symm
      have eH : nuV (pa1 w) 0 (pa1 w 43 0 (pq2 w + 0)) = pkh q := (B2 z2).symm
      have a1 : ∀ j : Int, pa1 w 43 0 j = if j = pq2 w + 0 then pkc q else w 43 0 j := fun j => by rw [← eC]; exact snM_a
      have a2 : ∀ j : Int, pa2 w 43 0 j = if j = pq2 w + 1 then pkh q else pa1 w 43 0 j := fun j => by rw [← eH]; exact snM_a
      have a4 : ∀ j : Int, pa4 w 43 0 j = if j = pq2 w + 3 then pkv q else pa2 w 43 0 j := fun j => by
        by_cases g : j = pq2 w + 3
        · rw [if_pos g, g]; exact v4
        · rw [if_neg g, ← row3]
          unfold pa4
          split
          · rw [snM_a, if_neg g]
          · rw [up3_off g]
      have a5 : ∀ j : Int, pa5 w 43 0 j = if j = 10 then pa4 w 43 0 10 + pa4 w 43 0 (pq2 w + 1) else pa4 w 43 0 j := fun j => by
        unfold pa5
        rw [up3_apply]
        by_cases g : j = 10
        · rw [if_pos ⟨rfl, rfl, g⟩, if_pos g]
        · rw [if_neg (fun y => g y.2.2), if_neg g]
      have a6 : ∀ j : Int, up3 (pa5 w) 43 0 3 (pa5 w 43 0 3 + 1) 43 0 j = if j = 3 then pa5 w 43 0 3 + 1 else pa5 w 43 0 j := fun j => by
        rw [up3_apply]
        by_cases g : j = 3
        · rw [if_pos ⟨rfl, rfl, g⟩, if_pos g]
        · rw [if_neg (fun y => g y.2.2), if_neg g]
      have k22 : pk4 q 22 = q 22 := pk4_k (by decide)
      refine DR_pack hD4 (by rw [k22]; exact hl2) o1.2 o2.2 (by rw [k22]; exact vb) ⟨?_, ?_, ?_, ?_, ?_⟩ (fun j hj => ?_)
      · rw [a6, if_pos rfl, a5, if_neg (by decide), a4, if_neg (by omega), a2, if_neg (by omega), a1, if_neg (by omega)]
      · rw [a6, if_neg (by decide), a5, if_pos rfl, a4 10, if_neg (by omega), a2 10, if_neg (by omega), a1 10, if_neg (by omega), a4, if_neg (by omega), a2, if_pos rfl]
      · rw [a6, if_neg (by omega), a5, if_neg (by omega), a4, if_neg (by omega), a2, if_neg (by omega), a1, if_pos (by omega)]
      · rw [a6, if_neg (by omega), a5, if_neg (by omega), a4, if_neg (by omega), a2, if_pos (by omega)]
      · rw [a6, if_neg (by omega), a5, if_neg (by omega), a4, if_pos (by omega)]
      · rw [a6, if_neg (by omega), a5, if_neg (by omega), a4, if_neg (by omega), a2, if_neg (by omega), a1, if_neg (by omega)]
  · rw [if_neg z]
    exact ⟨Rd_43 (Rd_43 D.1), fun y => absurd y z⟩
/-- known packs -/
theorem R_np {q w : Mem} (h : Rd q w) (hB : RB q) (hM : MB w) (e3 : w 43 0 3 = q 22 3 2) (hp : q 22 3 2 ≤ 8) : Rd (npM q) (knM w) ∧ (npM q 34 0 1 = 0 → npV q = knV w ∧ npM q 34 0 7 = knM w 41 0 11) :=
  R_num h hB hM (fun _ => ⟨rfl, by rw [e3], by omega⟩)
theorem R_two {q w : Mem} (h : Rd q w) (hB : RB q) (hM : MB w) (e3 : w 43 0 3 = q 22 3 2) (hp : q 22 3 2 ≤ 8) : Rd (tp2 q) (kk2 w) ∧ (tp2 q 34 0 1 = 0 → tpa q = kka w ∧ tpb q = kkb w ∧ tp2 q 34 0 7 = kk2 w 41 0 11) := by
  obtain ⟨a1, a2⟩ := R_np h hB hM e3 hp
  have k1 : npM q 22 = q 22 := numM_k (by decide)
  have k2 : knM w 43 = w 43 := nuM_k (by decide)
  obtain ⟨b1, b2⟩ := R_np a1 (RB_num hB) (MB_nu hM) (by rw [k1, k2]; exact e3) (by rw [k1]; exact hp)
  refine ⟨b1, fun z => ?_⟩
  have o := num_ok z
  exact ⟨(a2 o.1).1, (b2 z).1, (b2 z).2⟩
theorem R_tpF {q w : Mem} {p p' : Prop} [Decidable p] [Decidable p'] (hR : Rd (tp2 q) (kk2 w) ∧ (tp2 q 34 0 1 = 0 → tpa q = kka w ∧ tpb q = kkb w ∧ tp2 q 34 0 7 = kk2 w 41 0 11)) (hp : tp2 q 34 0 1 = 0 → (p ↔ p')) : Rd (tpF q p) (kkF w p') ∧ (tpF q p 34 0 1 = 0 → tp2 q 34 0 1 = 0 ∧ ¬ p) := by
  have e := hR.1.2.2.2.1
  unfold tpF kkF
  by_cases z : tp2 q 34 0 1 = 0
  · have z2 : kk2 w 41 0 12 = 0 := by rw [← e]; exact z
    by_cases g : p
    · rw [if_pos ⟨z, g⟩, if_pos ⟨z2, (hp z).mp g⟩]
      exact ⟨R_fail hR.1 (by decide) (fun _ => (hR.2 z).2.2), fun y => absurd y (failM_e (by decide))⟩
    · rw [if_neg (fun y => g y.2), if_neg (fun y => g ((hp z).mpr y.2))]
      exact ⟨hR.1, fun _ => ⟨z, g⟩⟩
  · rw [if_neg (fun y => z y.1), if_neg (fun y => z (by rw [e]; exact y.1))]
    exact ⟨hR.1, fun y => absurd y z⟩
theorem R_cab {q w : Mem} (hD : DRN q (w 43 0)) (hR : tp2 q 34 0 1 = 0 → tpa q = kka w ∧ tpb q = kkb w ∧ tp2 q 34 0 7 = kk2 w 41 0 11) (z : tp2 q 34 0 1 = 0) : tpa q = kka w ∧ tpb q = kkb w ∧ betN (w 43 0) (kka w) (kkb w) = q 27 3 (tpa q * 8 + tpb q) := by
  have o := tp_ok z
  have r := hR z
  refine ⟨r.1, r.2.1, ?_⟩
  rw [← r.1, ← r.2.1]
  exact hD.2.2.1.2.2.2.2.1 _ _ o.1.1 (by omega) o.2.1.1 (by omega)
theorem R_rd3 {q w : Mem} (h : Rd q w) (e : q 34 0 1 = 0) (hB : RB q) (hM : MB w) (hN : NB3 w) (hD : DRN q (w 43 0)) (hl : w 43 0 5 < 12) (hl2 : q 22 3 5 < 12) : SO (rd3 q) (pt3 w) := by
  have n5 := hN.2.2.2.1
  have q0 : cbq w = 86 + 6 * w 43 0 5 := rfl
  have e3 : w 43 0 3 = q 22 3 2 := hD.2.2.1.1.2.2.1
  have p3 := hD.1.2.2.1
  have T := R_two h hB hM e3 p3.2
  obtain ⟨F1, F2⟩ := R_tpF (p := cbP q) (p' := kcP w) T (fun z => by
    obtain ⟨x1, x2, x3⟩ := R_cab hD T.2 z
    unfold cbP kcP
    rw [x3, ← x1, ← x2]
    constructor
    · rintro (y | y)
      · exact Or.inl y.symm
      · exact Or.inr y
    · rintro (y | y)
      · exact Or.inl y.symm
      · exact Or.inr y)
  have G : Rd (tpF q (cbP q)) (cb1 w) := Rd_43 (Rd_43 F1)
  have hB1 : RB (tpF q (cbP q)) := RB_tpF hB
  have hM1 : MB (cb1 w) := MB_43 (MB_43 (MB_kkF hM))
  obtain ⟨A1, A2⟩ := R_sn (j := cbq w + 2) (lo := 0) (hi := 900) (lo' := 0) (hi' := 900) G hB1 hM1 (fun _ => ⟨rfl, rfl, by decide⟩)
  obtain ⟨B1, B2⟩ := R_sn (j := cbq w + 3) (lo := 1) (hi := 10000) (lo' := 1) (hi' := 10000) A1 (RB_num hB1) (MB_sn hM1) (fun _ => ⟨rfl, rfl, by decide⟩)
  have ep : pt3 w = up3 (cb2 w) 43 0 5 (cb2 w 43 0 5 + 1) := by unfold pt3; rw [if_pos hl]
  rw [ep]
  unfold rd3
  by_cases z : numM (numM (tpF q (cbP q)) 0 900) 1 10000 34 0 1 = 0
  · rw [if_pos z]
    have o2 := num_ok z
    have o1 := num_ok o2.1
    have o0 := F2 o1.1
    have ot := tp_ok o0.1
    obtain ⟨x1, x2, x3⟩ := R_cab hD T.2 o0.1
    refine ⟨?_, fun _ => ?_⟩
    · refine Rd_lo (Rd_43 B1) ?_ ?_
      · rw [addB_k (by decide), begC_k (by decide)]
      · rw [addB_k (by decide), begC_k (by decide)]
    · have kk : ∀ {k : Nat}, k ≠ 34 → numM (numM (tpF q (cbP q)) 0 900) 1 10000 k = q k := fun hk => by rw [numM_k hk, numM_k hk, tpF_k hk]
      have hD4 : DRN (numM (numM (tpF q (cbP q)) 0 900) 1 10000) (w 43 0) := hD.k (fun k hk => kk (by omega))
      have a0 : ∀ j : Int, cb1 w 43 0 j = if j = cbq w + 1 then tpb q else if j = cbq w + 0 then tpa q else w 43 0 j := fun j => by
        unfold cb1
        rw [up3_apply, up3_apply, kkF_k (by decide), ← x1, ← x2]
        by_cases g : j = cbq w + 1
        · rw [if_pos ⟨rfl, rfl, g⟩, if_pos g]
        · rw [if_neg (fun y => g y.2.2), if_neg g]
          by_cases g2 : j = cbq w + 0
          · rw [if_pos ⟨rfl, rfl, g2⟩, if_pos g2]
          · rw [if_neg (fun y => g2 y.2.2), if_neg g2]
      have a2 : ∀ j : Int, cb2 w 43 0 j = if j = cbq w + 3 then numV (numM (tpF q (cbP q)) 0 900) 1 10000 else if j = cbq w + 2 then numV (tpF q (cbP q)) 0 900 else cb1 w 43 0 j := fun j => by
        unfold cb2
        rw [snM_a, snM_a, B2 z, A2 o2.1]
      have a6 : ∀ j : Int, up3 (cb2 w) 43 0 5 (cb2 w 43 0 5 + 1) 43 0 j = if j = 5 then cb2 w 43 0 5 + 1 else cb2 w 43 0 j := fun j => by
        rw [up3_apply]
        by_cases g : j = 5
        · rw [if_pos ⟨rfl, rfl, g⟩, if_pos g]
        · rw [if_neg (fun y => g y.2.2), if_neg g]
      have c0 : ¬ cbP q := o0.2
      have c1 : tpa q ≠ tpb q := fun y => c0 (Or.inl y.symm)
      have c2 : q 27 3 (tpa q * 8 + tpb q) = -1 := by
        by_cases y : q 27 3 (tpa q * 8 + tpb q) = -1
        · exact y
        · exact absurd (Or.inr y) c0
      refine DR_cable hD4 (by rw [kk (by decide)]; exact hl2) (by rw [kk (by decide)]; omega) (by rw [kk (by decide)]; omega) o1.2 o2.2 c1 (by rw [kk (by decide)]; exact c2) ⟨?_, ?_, ?_, ?_, ?_⟩ (fun j hj => ?_)
      · rw [a6, if_pos rfl, a2, if_neg (by omega), if_neg (by omega), a0, if_neg (by omega), if_neg (by omega)]
      · rw [a6, if_neg (by omega), a2, if_neg (by omega), if_neg (by omega), a0, if_neg (by omega), if_pos (by omega)]
      · rw [a6, if_neg (by omega), a2, if_neg (by omega), if_neg (by omega), a0, if_pos (by omega)]
      · rw [a6, if_neg (by omega), a2, if_neg (by omega), if_pos (by omega)]
      · rw [a6, if_neg (by omega), a2, if_pos (by omega)]
      · rw [a6, if_neg (by omega), a2, if_neg (by omega), if_neg (by omega), a0, if_neg (by omega), if_neg (by omega)]
  · rw [if_neg z]
    exact ⟨Rd_43 B1, fun y => absurd y z⟩
theorem R_rd6 {q w : Mem} (h : Rd q w) (e : q 34 0 1 = 0) (hB : RB q) (hM : MB w) (hN : NB3 w) (hD : DRN q (w 43 0)) (hl : w 43 0 8 < 8) (hl2 : q 22 3 6 < 8) : SO (rd6 q) (pt6 w) := by
  have n8 := hN.2.2.2.2.1
  have q0 : ctq w = 270 + 6 * w 43 0 8 := rfl
  have e3 : w 43 0 3 = q 22 3 2 := hD.2.2.1.1.2.2.1
  have p3 := hD.1.2.2.1
  have T := R_two h hB hM e3 p3.2
  obtain ⟨F1, F2⟩ := R_tpF (p := ctP q) (p' := ktP w) T (fun z => by
    obtain ⟨x1, x2, x3⟩ := R_cab hD T.2 z
    unfold ctP ktP
    rw [x3, ← x1, ← x2]
    constructor
    · rintro (y | y)
      · exact Or.inl y.symm
      · exact Or.inr y
    · rintro (y | y)
      · exact Or.inl y.symm
      · exact Or.inr y)
  have G : Rd (tpF q (ctP q)) (ct1 w) := Rd_43 (Rd_43 F1)
  have hB1 : RB (tpF q (ctP q)) := RB_tpF hB
  have hM1 : MB (ct1 w) := MB_43 (MB_43 (MB_kkF hM))
  obtain ⟨A1, A2⟩ := R_sn (j := ctq w + 2) (lo := 1) (hi := 100000) (lo' := 1) (hi' := 100000) G hB1 hM1 (fun _ => ⟨rfl, rfl, by decide⟩)
  obtain ⟨B1, B2⟩ := R_sn (j := ctq w + 3) (lo := 0) (hi := 99) (lo' := 0) (hi' := 99) A1 (RB_num hB1) (MB_sn hM1) (fun _ => ⟨rfl, rfl, by decide⟩)
  obtain ⟨C1, C2⟩ := R_sn (j := ctq w + 4) (lo := 0) (hi := 99) (lo' := 0) (hi' := 99) B1 (RB_num (RB_num hB1)) (MB_sn (MB_sn hM1)) (fun _ => ⟨rfl, rfl, by decide⟩)
  have ep : pt6 w = up3 (ct2 w) 43 0 8 (ct2 w 43 0 8 + 1) := by unfold pt6; rw [if_pos hl]
  rw [ep]
  unfold rd6
  by_cases z : numM (numM (numM (tpF q (ctP q)) 1 100000) 0 99) 0 99 34 0 1 = 0
  · rw [if_pos z]
    have o3 := num_ok z
    have o2 := num_ok o3.1
    have o1 := num_ok o2.1
    have o0 := F2 o1.1
    have ot := tp_ok o0.1
    obtain ⟨x1, x2, x3⟩ := R_cab hD T.2 o0.1
    refine ⟨?_, fun _ => ?_⟩
    · refine Rd_lo (Rd_43 C1) ?_ ?_
      · rw [addK_k (by decide)]
      · rw [addK_k (by decide)]
    · have kk : ∀ {k : Nat}, k ≠ 34 → numM (numM (numM (tpF q (ctP q)) 1 100000) 0 99) 0 99 k = q k := fun hk => by rw [numM_k hk, numM_k hk, numM_k hk, tpF_k hk]
      have hD4 : DRN (numM (numM (numM (tpF q (ctP q)) 1 100000) 0 99) 0 99) (w 43 0) := hD.k (fun k hk => kk (by omega))
      have a0 : ∀ j : Int, ct1 w 43 0 j = if j = ctq w + 1 then tpb q else if j = ctq w + 0 then tpa q else w 43 0 j := fun j => by
        unfold ct1
        rw [up3_apply, up3_apply, kkF_k (by decide), ← x1, ← x2]
        by_cases g : j = ctq w + 1
        · rw [if_pos ⟨rfl, rfl, g⟩, if_pos g]
        · rw [if_neg (fun y => g y.2.2), if_neg g]
          by_cases g2 : j = ctq w + 0
          · rw [if_pos ⟨rfl, rfl, g2⟩, if_pos g2]
          · rw [if_neg (fun y => g2 y.2.2), if_neg g2]
      have a2 : ∀ j : Int, ct2 w 43 0 j = if j = ctq w + 4 then numV (numM (numM (tpF q (ctP q)) 1 100000) 0 99) 0 99 else if j = ctq w + 3 then numV (numM (tpF q (ctP q)) 1 100000) 0 99 else if j = ctq w + 2 then numV (tpF q (ctP q)) 1 100000 else ct1 w 43 0 j := fun j => by
        unfold ct2
        rw [snM_a, snM_a, snM_a, C2 z, B2 o3.1, A2 o2.1]
      have a6 : ∀ j : Int, up3 (ct2 w) 43 0 8 (ct2 w 43 0 8 + 1) 43 0 j = if j = 8 then ct2 w 43 0 8 + 1 else ct2 w 43 0 j := fun j => by
        rw [up3_apply]
        by_cases g : j = 8
        · rw [if_pos ⟨rfl, rfl, g⟩, if_pos g]
        · rw [if_neg (fun y => g y.2.2), if_neg g]
      have c0 : ¬ ctP q := o0.2
      have c1 : tpa q ≠ tpb q := fun y => c0 (Or.inl y.symm)
      have c2 : q 27 3 (tpa q * 8 + tpb q) ≠ -1 := fun y => c0 (Or.inr y)
      have c3 := hD.1.2.2.2.2.2.2.2.2.2.2.1 (tpa q) (tpb q) ot.1.1 (by omega) ot.2.1.1 (by omega)
      refine DR_contract hD4 (by rw [kk (by decide)]; exact hl2) (by rw [kk (by decide)]; omega) (by rw [kk (by decide)]; omega) o1.2 o2.2 o3.2 c1 (by rw [kk (by decide), kk (by decide)]; omega) ⟨?_, ?_, ?_, ?_, ?_, ?_⟩ (fun j hj => ?_)
      · rw [a6, if_pos rfl, a2, if_neg (by omega), if_neg (by omega), if_neg (by omega), a0, if_neg (by omega), if_neg (by omega)]
      · rw [a6, if_neg (by omega), a2, if_neg (by omega), if_neg (by omega), if_neg (by omega), a0, if_neg (by omega), if_pos (by omega)]
      · rw [a6, if_neg (by omega), a2, if_neg (by omega), if_neg (by omega), if_neg (by omega), a0, if_pos (by omega)]
      · rw [a6, if_neg (by omega), a2, if_neg (by omega), if_neg (by omega), if_pos (by omega)]
      · rw [a6, if_neg (by omega), a2, if_neg (by omega), if_pos (by omega)]
      · rw [a6, if_neg (by omega), a2, if_pos (by omega)]
      · rw [a6, if_neg (by omega), a2, if_neg (by omega), if_neg (by omega), if_neg (by omega), a0, if_neg (by omega), if_neg (by omega)]
  · rw [if_neg z]
    exact ⟨Rd_43 C1, fun y => absurd y z⟩
theorem R_rd4 {q w : Mem} (h : Rd q w) (e : q 34 0 1 = 0) (hB : RB q) (hM : MB w) (hN : NB3 w) (hD : DRN q (w 43 0)) (hl : w 43 0 6 < 12) (hl2 : q 22 3 4 < 12) : SO (rd4 q) (pt4 w) := by
  have n6 := hN.2.2.1
  have q0 : suq w = 158 + 4 * w 43 0 6 := rfl
  have e3 : w 43 0 3 = q 22 3 2 := hD.2.2.1.1.2.2.1
  have p3 := hD.1.2.2.1
  obtain ⟨T1, T2⟩ := R_np h hB hM e3 p3.2
  have G : Rd (npM q) (su1 w) := Rd_43 T1
  have hB1 : RB (npM q) := RB_num hB
  have hM1 : MB (su1 w) := MB_43 (MB_nu hM)
  obtain ⟨A1, A2⟩ := R_sn (j := suq w + 1) (lo := 0) (hi := 23) (lo' := 0) (hi' := 23) G hB1 hM1 (fun _ => ⟨rfl, rfl, by decide⟩)
  have v1 : su2 w 43 0 (suq w + 1) = nuV (su1 w) 0 23 := by unfold su2; rw [snM_a, if_pos rfl]
  obtain ⟨B1, B2⟩ := R_sn (c := numM (npM q) 0 23) (m := su2 w) (j := suq w + 2) (lo := numV (npM q) 0 23) (hi := 23) (lo' := su2 w 43 0 (suq w + 1)) (hi' := 23) A1 (RB_num hB1) (MB_sn hM1) (fun z => ⟨by rw [v1, A2 z], rfl, by decide⟩)
  obtain ⟨C1, C2⟩ := R_sn (c := numM (numM (npM q) 0 23) (numV (npM q) 0 23) 23) (m := su3 w) (j := suq w + 3) (lo := 1) (hi := 10000) (lo' := 1) (hi' := 10000) B1 (RB_num (RB_num hB1)) (MB_sn (MB_sn hM1)) (fun _ => ⟨rfl, rfl, by decide⟩)
  have ep : pt4 w = up3 (su4 w) 43 0 6 (su4 w 43 0 6 + 1) := by unfold pt4; rw [if_pos hl]
  rw [ep]
  unfold rd4
  by_cases z : numM (numM (numM (npM q) 0 23) (numV (npM q) 0 23) 23) 1 10000 34 0 1 = 0
  · rw [if_pos z]
    have o3 := num_ok z
    have o2 := num_ok o3.1
    have o1 := num_ok o2.1
    have o0 := num_ok o1.1
    have ob : 0 ≤ npV q ∧ npV q ≤ q 22 3 2 - 1 := o0.2
    refine ⟨?_, fun _ => ?_⟩
    · exact Rd_lo (Rd_43 C1) (addU_k (by decide)) (addU_k (by decide))
    · have kk : ∀ {k : Nat}, k ≠ 34 → numM (numM (numM (npM q) 0 23) (numV (npM q) 0 23) 23) 1 10000 k = q k := fun hk => by rw [numM_k hk, numM_k hk, numM_k hk]; exact numM_k hk
      have hD4 : DRN (numM (numM (numM (npM q) 0 23) (numV (npM q) 0 23) 23) 1 10000) (w 43 0) := hD.k (fun k hk => kk (by omega))
      have a1 : ∀ j : Int, su1 w 43 0 j = if j = suq w then npV q else w 43 0 j := fun j => by
        unfold su1
        rw [up3_apply, (T2 o1.1).1]
        by_cases g : j = suq w
        · rw [if_pos ⟨rfl, rfl, g⟩, if_pos g]
        · rw [if_neg (fun y => g y.2.2), if_neg g]
          exact congrFun (congrFun (nuM_k (by decide)) 0) j
      have a2 : ∀ j : Int, su2 w 43 0 j = if j = suq w + 1 then numV (npM q) 0 23 else su1 w 43 0 j := fun j => by rw [A2 o2.1]; exact snM_a
      have a3 : ∀ j : Int, su3 w 43 0 j = if j = suq w + 2 then numV (numM (npM q) 0 23) (numV (npM q) 0 23) 23 else su2 w 43 0 j := fun j => by rw [B2 o3.1]; exact snM_a
      have a4 : ∀ j : Int, su4 w 43 0 j = if j = suq w + 3 then numV (numM (numM (npM q) 0 23) (numV (npM q) 0 23) 23) 1 10000 else su3 w 43 0 j := fun j => by rw [C2 z]; exact snM_a
      have a6 : ∀ j : Int, up3 (su4 w) 43 0 6 (su4 w 43 0 6 + 1) 43 0 j = if j = 6 then su4 w 43 0 6 + 1 else su4 w 43 0 j := fun j => by
        rw [up3_apply]
        by_cases g : j = 6
        · rw [if_pos ⟨rfl, rfl, g⟩, if_pos g]
        · rw [if_neg (fun y => g y.2.2), if_neg g]
      refine DR_sun hD4 (by rw [kk (by decide)]; exact hl2) (by rw [kk (by decide)]; omega) ⟨o1.2.1, o2.2.1⟩ (by omega) o3.2 ⟨?_, ?_, ?_, ?_, ?_⟩ (fun j hj => ?_)
      · rw [a6, if_pos rfl, a4, if_neg (by omega), a3, if_neg (by omega), a2, if_neg (by omega), a1, if_neg (by omega)]
      · rw [a6, if_neg (by omega), a4, if_neg (by omega), a3, if_neg (by omega), a2, if_neg (by omega), a1, if_pos (by omega)]
      · rw [a6, if_neg (by omega), a4, if_neg (by omega), a3, if_neg (by omega), a2, if_pos (by omega)]
      · rw [a6, if_neg (by omega), a4, if_neg (by omega), a3, if_pos (by omega)]
      · rw [a6, if_neg (by omega), a4, if_pos (by omega)]
      · rw [a6, if_neg (by omega), a4, if_neg (by omega), a3, if_neg (by omega), a2, if_neg (by omega), a1, if_neg (by omega)]
  · rw [if_neg z]
    exact ⟨Rd_43 C1, fun y => absurd y z⟩
theorem R_rd5 {q w : Mem} (h : Rd q w) (e : q 34 0 1 = 0) (hB : RB q) (hM : MB w) (hN : NB3 w) (hD : DRN q (w 43 0)) (hl : w 43 0 7 < 16) (hl2 : q 1 4 0 < 16) : SO (rd5 q) (pt5 w) := by
  have n7 := hN.2.2.2.2.2.1
  have q0 : trq w = 206 + 4 * w 43 0 7 := rfl
  have e3 : w 43 0 3 = q 22 3 2 := hD.2.2.1.1.2.2.1
  have p3 := hD.1.2.2.1
  obtain ⟨T1, T2⟩ := R_np h hB hM e3 p3.2
  have G : Rd (npM q) (tp1 w) := Rd_43 T1
  have hB1 : RB (npM q) := RB_num hB
  have hM1 : MB (tp1 w) := MB_43 (MB_nu hM)
  obtain ⟨A1, A2⟩ := R_sn (j := trq w + 1) (lo := 0) (hi := 9999) (lo' := 0) (hi' := 9999) G hB1 hM1 (fun _ => ⟨rfl, rfl, by decide⟩)
  obtain ⟨B1, B2⟩ := R_sn (c := numM (npM q) 0 9999) (m := tpp2 w) (j := trq w + 2) (lo := 1) (hi := 100000) (lo' := 1) (hi' := 100000) A1 (RB_num hB1) (MB_sn hM1) (fun _ => ⟨rfl, rfl, by decide⟩)
  have ep : pt5 w = up3 (tp3 w) 43 0 7 (tp3 w 43 0 7 + 1) := by unfold pt5; rw [if_pos hl]
  rw [ep]
  unfold rd5
  by_cases z : numM (numM (npM q) 0 9999) 1 100000 34 0 1 = 0
  · rw [if_pos z]
    have o2 := num_ok z
    have o1 := num_ok o2.1
    have o0 := num_ok o1.1
    have ob : 0 ≤ npV q ∧ npV q ≤ q 22 3 2 - 1 := o0.2
    refine ⟨?_, fun _ => ?_⟩
    · exact Rd_lo (Rd_43 B1) (addT_k (by decide)) (addT_k (by decide))
    · have kk : ∀ {k : Nat}, k ≠ 34 → numM (numM (npM q) 0 9999) 1 100000 k = q k := fun hk => by rw [numM_k hk, numM_k hk]; exact numM_k hk
      have hD4 : DRN (numM (numM (npM q) 0 9999) 1 100000) (w 43 0) := hD.k (fun k hk => kk (by omega))
      have a1 : ∀ j : Int, tp1 w 43 0 j = if j = trq w then npV q else w 43 0 j := fun j => by
        unfold tp1
        rw [up3_apply, (T2 o1.1).1]
        by_cases g : j = trq w
        · rw [if_pos ⟨rfl, rfl, g⟩, if_pos g]
        · rw [if_neg (fun y => g y.2.2), if_neg g]
          exact congrFun (congrFun (nuM_k (by decide)) 0) j
      have a2 : ∀ j : Int, tpp2 w 43 0 j = if j = trq w + 1 then numV (npM q) 0 9999 else tp1 w 43 0 j := fun j => by rw [A2 o2.1]; exact snM_a
      have a3 : ∀ j : Int, tp3 w 43 0 j = if j = trq w + 2 then numV (numM (npM q) 0 9999) 1 100000 else tpp2 w 43 0 j := fun j => by rw [B2 z]; exact snM_a
      have a6 : ∀ j : Int, up3 (tp3 w) 43 0 7 (tp3 w 43 0 7 + 1) 43 0 j = if j = 7 then tp3 w 43 0 7 + 1 else tp3 w 43 0 j := fun j => by
        rw [up3_apply]
        by_cases g : j = 7
        · rw [if_pos ⟨rfl, rfl, g⟩, if_pos g]
        · rw [if_neg (fun y => g y.2.2), if_neg g]
      refine DR_trip hD4 (by rw [kk (by decide)]; exact hl2) (by rw [kk (by decide)]; omega) o1.2 o2.2 ⟨?_, ?_, ?_, ?_⟩ (fun j hj => ?_)
      · rw [a6, if_pos rfl, a3, if_neg (by omega), a2, if_neg (by omega), a1, if_neg (by omega)]
      · rw [a6, if_neg (by omega), a3, if_neg (by omega), a2, if_neg (by omega), a1, if_pos (by omega)]
      · rw [a6, if_neg (by omega), a3, if_neg (by omega), a2, if_pos (by omega)]
      · rw [a6, if_neg (by omega), a3, if_pos (by omega)]
      · rw [a6, if_neg (by omega), a3, if_neg (by omega), a2, if_neg (by omega), a1, if_neg (by omega)]
  · rw [if_neg z]
    exact ⟨Rd_43 B1, fun y => absurd y z⟩
theorem R_cu : ∀ (n : Nat) (c m : Mem) (r i : Int), Rd c m → RB c → MB m → m 43 0 4 * 4 = r → 0 ≤ r → 0 ≤ i → Rd (cuL c r i n) (cuN m i n) ∧ (cuL c r i n 34 0 1 = 0 → c 34 0 1 = 0 ∧ ∀ f, r + i ≤ f → f < r + i + n → cuN m i n 43 0 (14 + f) = cuL c r i n 25 3 f ∧ 0 ≤ cuL c r i n 25 3 f ∧ cuL c r i n 25 3 f ≤ 1000) ∧ (∀ f, f < r + i → cuL c r i n 25 3 f = c 25 3 f) ∧ (∀ j, (j < 14 + r + i ∨ 14 + r + i + n ≤ j) → cuN m i n 43 0 j = m 43 0 j) := by
  intro n
  induction n with
  | zero => intro c m r i h hB hM hr h0 h1; exact ⟨h, fun z => ⟨z, fun f a b => by exfalso; omega⟩, fun _ _ => rfl, fun _ _ => rfl⟩
  | succ n ih =>
    intro c m r i h hB hM hr h0 h1
    obtain ⟨A1, A2⟩ := R_sn (j := 14 + 4 * m 43 0 4 + i) (lo := 0) (hi := 1000) (lo' := 0) (hi' := 1000) h hB hM (fun _ => ⟨rfl, rfl, by decide⟩)
    have e4 : snM m (14 + 4 * m 43 0 4 + i) 0 1000 43 0 4 = m 43 0 4 := by rw [snM_a, if_neg (by omega)]
    have A3 : Rd (up3 (numM c 0 1000) 25 3 (r + i) (numV c 0 1000)) (snM m (14 + 4 * m 43 0 4 + i) 0 1000) := Rd_lo A1 (up3_k (by decide)) (up3_k (by decide))
    obtain ⟨B1, B2, B3, B4⟩ := ih _ _ r (i + 1) A3 (RB_25 (RB_num hB)) (MB_sn hM) (by rw [e4]; exact hr) h0 (by omega)
    refine ⟨B1, fun z => ?_, fun f hf => ?_, fun j hj => ?_⟩
    · obtain ⟨z1, z2⟩ := B2 z
      have z3 : numM c 0 1000 34 0 1 = 0 := by
        have y := z1
        rw [up3_k (by decide)] at y
        exact y
      have o := num_ok z3
      refine ⟨o.1, fun f a b => ?_⟩
      by_cases g : f = r + i
      · have y1 : cuL c r i (n + 1) 25 3 f = numV c 0 1000 := by
          show cuL _ r (i + 1) n 25 3 f = _
          rw [B3 f (by omega), g, up3_at]
        have y2 : cuN m i (n + 1) 43 0 (14 + f) = numV c 0 1000 := by
          show cuN _ (i + 1) n 43 0 (14 + f) = _
          rw [B4 _ (by omega), snM_a, if_pos (by omega), A2 z3]
        rw [y1, y2]
        exact ⟨rfl, o.2⟩
      · exact z2 f (by omega) (by omega)
    · show cuL _ r (i + 1) n 25 3 f = _
      rw [B3 f (by omega), up3_off (by omega), numM_k (by decide)]
    · show cuN _ (i + 1) n 43 0 j = _
      rw [B4 j (by omega), snM_a, if_neg (by omega)]
theorem R_rd1 {q w : Mem} (h : Rd q w) (e : q 34 0 1 = 0) (hB : RB q) (hM : MB w) (hN : NB3 w) (hD : DRN q (w 43 0)) (hl : w 43 0 4 < 4) (hl2 : q 22 3 3 < 4) : SO (rd1 q) (pt1 w) := by
  have n4 := hN.2.1
  have e4 : w 43 0 4 = q 22 3 3 := hD.2.2.1.1.2.2.2.1
  obtain ⟨A1, A2, A3, A4⟩ := R_cu 4 q w (q 22 3 3 * 4) 0 h hB hM (by rw [e4]) (by omega) (by decide)
  have ep : pt1 w = up3 (cuN w 0 4) 43 0 4 (cuN w 0 4 43 0 4 + 1) := by unfold pt1; rw [if_pos hl]
  rw [ep]
  unfold rd1
  have k22 : cuL q (q 22 3 3 * 4) 0 4 22 = q 22 := cuL_k (by decide) _ _ _
  have c4 : cuN w 0 4 43 0 4 = w 43 0 4 := cuN_4 4 w 0 n4.1 (by decide)
  have e34 : up3 (cuL q (q 22 3 3 * 4) 0 4) 22 3 3 (cuL q (q 22 3 3 * 4) 0 4 22 3 3 + 1) 34 = cuL q (q 22 3 3 * 4) 0 4 34 := up3_k (by decide)
  refine ⟨Rd_43 (Rd_lo A1 e34 (up3_k (by decide))), fun z => ?_⟩
  rw [e34] at z
  obtain ⟨-, z2⟩ := A2 z
  have hD0 := hD
  refine DR_curve hD hl2 ?_ (fun k a b d => ?_) ?_ (fun j hj => ?_) (fun f hf => ?_) (fun f a b => ?_) (fun j hj => ?_)
  · rw [up3_at, c4]
  · rw [up3_k b, cuL_k ⟨by omega, d⟩]
  · rw [up3_at, k22]
  · rw [up3_off hj, k22]
  · rw [up3_k (by decide)]; exact A3 f (by omega)
  · have y := z2 f (by omega) (by omega)
    rw [up3_off (by omega), up3_k (by decide)]
    exact y
  · rw [up3_off hj.1]; exact A4 j (by omega)
