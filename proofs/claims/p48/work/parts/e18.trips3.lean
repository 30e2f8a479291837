/-! acts: a trip dropped -/
def rmB (B : Bok) (j i : Nat) : Bok := (B.1, B.2.1, B.2.2.1, fun k q => if k = j ∧ i ≤ q then B.2.2.2 k (q + 1) else B.2.2.2 k q)
def dq (i q : Nat) : Nat := if q < i then q else q + 1
theorem rm_j {B : Bok} {j i q : Nat} : bE (rmB B j i) j q = bE B j (dq i q) := by
  show (if j = j ∧ i ≤ q then _ else _) = _
  unfold dq
  by_cases c : q < i
  · rw [if_pos c, if_neg (by omega)]
    rfl
  · rw [if_neg c, if_pos ⟨rfl, by omega⟩]
    rfl
theorem rm_o {B : Bok} {j i k q : Nat} (h : ¬ k = j) : bE (rmB B j i) k q = bE B k q := if_neg (fun z => h z.1)
theorem dq_lt {i q : Nat} {n : Int} (h : (q : Int) < n - 1) : ((dq i q : Nat) : Int) < n := by unfold dq; split <;> omega
theorem dq_inj {i q q' : Nat} (h : dq i q = dq i q') : q = q' := by unfold dq at h; split at h <;> split at h <;> omega
/-- the thing i of the list j goes -/
theorem WN.rm {G : GG} {h h1 : Hp} {a : Nat} {N N' : Int → Int} {B : Bok} {S T : Nat → Prop} (hW : WN G h a N B S T) (hu : UQ h1) (j : Nat) (hj : 2 ≤ j ∧ j < 7) {i : Nat} (hi : (i : Int) < nj N j)
    (hA : LA G h1 (B.1 j) (B.2.1 j) (B.2.2.1 j) ((nj N j).toNat - 1) (drE (fun q => (pk j, bE B j q)) i)) (hF : Fr (fun x => x = B.1 j ∨ x = B.2.2.1 j) h h1)
    (hN0 : ∀ f, f < 7 → N' (hd f) = N (hd f)) (hNj : ∀ k, k < 7 → nj N' k = nj N k - (if k = j then 1 else 0)) (hNe : ∀ k, k < 7 → k ≠ j → ∀ q : Nat, (q : Int) < nj N k → ∀ f, f < nf k → N' (ix k q f) = N (ix k q f)) (hNr : ∀ q : Nat, (q : Int) < nj N j - 1 → ∀ f, f < nf j → N' (ix j q f) = N (ix j (dq i q) f)) :
    WN G h1 a N' (rmB B j i) S T ∧ Fr S h h1 := by
  have u0 := hu.fr hF
  obtain ⟨w1, w2, w3, w4, w5, ⟨s1, s2, s3, s4, s5⟩, w7, w8, w9⟩ := hW
  have l56 : ∀ i, i < 7 → (56, B.1 i) ∈ h.1 := fun i hi => (w4 i hi).2.1
  have l7 : ∀ i, i < 7 → 0 < B.2.1 i → (ak 7 (B.2.1 i), B.2.2.1 i) ∈ h.1 := fun i hi => (w4 i hi).2.2.2.2.2.2.1
  have hc : 0 < B.2.1 j := by
    have := (w4 j hj.2).2.2.2.2.1
    omega
  have st : ∀ k i, 51 ≤ k → k ≠ 56 → (∀ c, k ≠ ak 7 c) → (k, i) ∈ h.1 → h1.2.1 k i = h.2.1 k i ∧ h1.2.2.1 k i = h.2.2.1 k i := fun k i hk h56 h7 hm => hF.2.2.1 k i hk hm (fun z => by
    rcases z with z | z
    · exact h56 (u0 k 56 i hk (by decide) hm (by rw [z]; exact l56 j hj.2))
    · exact h7 _ (u0 k _ i hk ak_ge hm (by rw [z]; exact l7 j hj.2 hc)))
  have sa := st 51 a (by decide) (by decide) (fun c => by unfold ak; omega) w1
  have se : ∀ i, i < 7 → ∀ q : Nat, (q : Int) < nj N i → h1.2.1 (pk i) (bE B i q) = h.2.1 (pk i) (bE B i q) := fun i hi q hq => (st _ _ (pk_ge i) (pk_n56 i) (pk_n7 i) (((w4 i hi).2.2.2.2.2.2.2.2.1 q (by have := (w4 i hi).1; omega)).2.2)).1
  have lj : ∀ q : Nat, (q : Int) < nj N' j → (q : Int) < nj N j - 1 := fun q hq => by
    rw [hNj j hj.2, if_pos rfl] at hq
    exact hq
  have lo : ∀ k, k < 7 → ¬ k = j → ∀ q : Nat, (q : Int) < nj N' k → (q : Int) < nj N k := fun k hk c q hq => by
    rw [hNj k hk, if_neg c] at hq
    omega
  refine ⟨⟨hF.1 _ w1, fun f hf => by rw [sa.1, hN0 f hf]; exact w2 f hf, fun i hi => by rw [sa.2]; exact w3 i hi, fun k hk => ?_, fun k hk q hq f hf => ?_, ⟨s1, s2, fun k h2 hk q hq => ?_, fun k h2 q hq => ?_, fun x hx => ⟨(s5 x hx).1, ?_⟩⟩, w7, w8, fun k h2 hk q q' hq hq' ee => ?_⟩, hF.w (fun x z => .inl ?_)⟩
  · rw [hNj k hk]
    by_cases c : k = j
    · subst c
      rw [if_pos rfl]
      have n0 := (w4 k hk).1
      refine ⟨by omega, ?_⟩
      show LA G h1 (B.1 k) (B.2.1 k) (B.2.2.1 k) _ _
      rw [show (nj N k - 1).toNat = (nj N k).toNat - 1 by omega]
      refine hA.E (fun q hq => ?_)
      show (pk k, bE (rmB B k i) k q) = _
      rw [rm_j]
      unfold drE dq
      by_cases d : q < i
      · rw [if_pos d, if_pos d]
      · rw [if_neg d, if_neg d]
    · rw [if_neg c, Int.sub_zero]
      refine ⟨(w4 k hk).1, ?_⟩
      show LA G h1 (B.1 k) (B.2.1 k) (B.2.2.1 k) _ _
      refine LA.E ((w4 k hk).2.fr hF (fun z => ?_) (fun d z => ?_)) (fun q hq => ?_)
      · rcases z with z | z
        · exact c (w7 k j hk hj.2 z)
        · have := u0 56 _ _ (by decide) ak_ge (l56 k hk) (by rw [z]; exact l7 j hj.2 hc)
          unfold ak at this
          omega
      · rcases z with z | z
        · have := u0 56 _ _ (by decide) ak_ge (l56 j hj.2) (by rw [← z]; exact l7 k hk d)
          unfold ak at this
          omega
        · exact c (w8 k j hk hj.2 d hc z)
      · show (pk k, bE (rmB B j i) k q) = _
        rw [rm_o c]
  · by_cases c : k = j
    · subst c
      have hq' := lj q hq
      rw [rm_j, se k hk _ (dq_lt hq'), hNr q hq' f hf]
      exact w5 k hk _ (dq_lt hq') f hf
    · have hq' := lo k hk c q hq
      rw [rm_o c, se k hk q hq', hNe k hk c q hq' f hf]
      exact w5 k hk q hq' f hf
  · by_cases c : k = j
    · subst c
      rw [rm_j]
      exact s3 k h2 hk _ (dq_lt (lj q hq))
    · rw [rm_o c]
      exact s3 k h2 hk q (lo k hk c q hq)
  · have c : ¬ k = j := by omega
    rw [rm_o c]
    exact s4 k h2 q (lo k (by omega) c q hq)
  · obtain ⟨k, k1, k2⟩ := (s5 x hx).2
    exact ⟨k, k1, hF.1 _ k2⟩
  · by_cases c : k = j
    · subst c
      rw [rm_j, rm_j] at ee
      exact dq_inj (w9 k h2 hk _ _ (dq_lt (lj q hq)) (dq_lt (lj q' hq')) ee)
    · rw [rm_o c, rm_o c] at ee
      exact w9 k h2 hk q q' (lo k hk c q hq) (lo k hk c q' hq') ee
  · rcases z with z | z
    · rw [z]; exact (s2 j hj.2).1
    · rw [z]; exact (s2 j hj.2).2 hc
theorem dpN_lo {N : Int → Int} {t j : Int} (h0 : 0 ≤ t) (h1 : t < N 7) (hj : j ≠ 7) (h2 : ¬ (206 ≤ j ∧ j < 206 + 4 * (N 7 - 1))) : dpN N t j = N j := by
  rw [dpN_v N t h0 h1, if_neg hj, if_neg (by omega)]
theorem dpN_e {N : Int → Int} {t : Int} (h0 : 0 ≤ t) (h1 : t < N 7) (h7 : N 7 ≤ 16) (hm : ∀ i, i < 7 → nj N i ≤ mxj i) : ∀ i, i < 7 → i ≠ 2 → ∀ q : Nat, (q : Int) < nj N i → ∀ f, f < nf i → dpN N t (ix i q f) = N (ix i q f) := by
  intro i hi e q hq f hf
  have b := ix_lo hi (Int.lt_of_lt_of_le hq (hm i hi)) hf
  have o := ix_o hi (Int.lt_of_lt_of_le hq (hm i hi)) hf 2 (by decide) e
  have e1 : bs 2 = 206 := rfl
  have e2 : sd 2 * mxj 2 = 64 := rfl
  exact dpN_lo h0 h1 (by omega) (by omega)
theorem dpN_j {N : Int → Int} {t : Int} (h0 : 0 ≤ t) (h1 : t < N 7) : ∀ i, i < 7 → nj (dpN N t) i = nj N i - (if i = 2 then 1 else 0) := by
  intro i hi
  match i, hi with
  | 0, _ => exact (dpN_lo h0 h1 (by omega) (by omega)).trans (Int.sub_zero _).symm
  | 1, _ => exact (dpN_lo h0 h1 (by omega) (by omega)).trans (Int.sub_zero _).symm
  | 2, _ =>
    show dpN N t 7 = N 7 - 1
    rw [dpN_v N t h0 h1, if_pos rfl]
  | 3, _ => exact (dpN_lo h0 h1 (by omega) (by omega)).trans (Int.sub_zero _).symm
  | 4, _ => exact (dpN_lo h0 h1 (by omega) (by omega)).trans (Int.sub_zero _).symm
  | 5, _ => exact (dpN_lo h0 h1 (by omega) (by omega)).trans (Int.sub_zero _).symm
  | 6, _ => exact (dpN_lo h0 h1 (by omega) (by omega)).trans (Int.sub_zero _).symm
  | n + 7, h => exact absurd h (by omega)
theorem dpN_r {N : Int → Int} {i : Nat} (h1 : (i : Int) < N 7) : ∀ q : Nat, (q : Int) < N 7 - 1 → ∀ f, f < 4 → dpN N (i : Int) (ix 2 q f) = N (ix 2 (dq i q) f) := by
  intro q hq f hf
  have e1 : ix 2 q f = 206 + 4 * (q : Int) + (f : Int) := rfl
  have e2 : ix 2 (dq i q) f = 206 + 4 * ((dq i q : Nat) : Int) + (f : Int) := rfl
  rw [dpN_v N i (by omega) h1, if_neg (by omega), e1, e2]
  unfold dq
  by_cases c : q < i
  · rw [if_pos c, if_neg (by omega)]
  · rw [if_neg c, if_pos (by omega)]
    congr 1
    omega
theorem UT.drop {K : Nat} {N : Int → Int} {t : Int} (h : UT K N) (h0 : 0 ≤ t) (h1 : t < N 7) (h7 : N 7 ≤ 16) (h5 : N 5 ≤ 12) : UT K (dpN N t) := ⟨h.1.cg (dpN_lo h0 h1 (by omega) (by omega)) (dpN_lo h0 h1 (by omega) (by omega)) h5 (fun j a b _ => dpN_lo h0 h1 (by omega) (by omega)), by rw [dpN_lo h0 h1 (by omega) (by omega)]; exact h.2⟩
theorem ac_8d1 {G : GG} {h H : Hp} {V : Nat → Vw} {R : Nat → Int → Int} {p : Nat} {T : Nat → Prop} {pl c b aw K w2 : Nat} {B2 : Bok} (I : AI G h V R p T pl c b aw K) (F : Fr (fun _ => False) h H) (W2 : WN G H w2 (R p) B2 (snew h H) T) (hK : K ≤ 99) {x : Int} (hx : 0 ≤ x ∧ x < 134217728) {c0 s0 : Nat} (hcs : c0 ≤ 760) (hss : s0 ≤ 14500) {q : Nat} (hx3 : x % 3 = 0) (h7 : 0 < R p 7) (hqe : x / 4 % R p 7 = (q : Int)) (hst : R p (206 + 4 * (q : Int) + 3) = 0) : YY G ML_act (rmL 12 2500 24000) 599 [(0, rf G 38 0), (1, rf G (ak 8 1) aw), (2, rf G 56 pl), (4, rf G 51 (V p).1), (5, .int (iI x)), (7, .int (iI (R p 3))), (8, .int (iI (R p 8))), (9, .int (iI (R p 9))), (10, rf G 51 w2), (11, .int (iI 1))] [] H c0 s0 (fun v h1 => v = some (.int (iI 1)) ∧ ∃ V' R' p' c' b', AI G h1 V' R' p' T pl c' b' aw (K + 1)) := by
  have p8 := I.2.1.p8
  have hW := I.w.fr0 F
  have hs := I.2.1.1.fr F
  have hcH := F.cl I.1
  have gn := hs.gn
  have hU := I.2.2.1 p (Nat.le_refl p)
  have hn := F.2.2.2.2
  have r3 := hs.1.2.2.1.1.2.2.1
  have r5 := hs.1.2.2.1.1.2.2.2.2.2.1
  have r8 := hs.1.2.2.1.1.2.2.2.2.2.2
  have r7 := hs.1.2.2.2.1.1.2.2.2.2.2.1
  have r9 := hs.1.2.2.2.1.1.2.2.2.2.2.2
  have r2 := hs.1.2.2.2.1.1.1
  have b2 := hs.1.2.1.1
  have b3 := hs.1.1.2.2.1
  have b5 := hs.1.1.2.2.2.2.2.1
  have b8 := hs.1.1.2.2.2.2.2.2.1
  have b7 := hs.1.2.1.2.2.2.1.1
  have b9 := hs.1.2.1.2.2.2.2.1.1
  have nn3 : 0 ≤ R p 3 ∧ R p 3 ≤ 8 := by omega
  have nn5 : 0 ≤ R p 5 ∧ R p 5 ≤ 12 := by omega
  have nn7 : 0 ≤ R p 7 ∧ R p 7 ≤ 16 := by omega
  have nn8 : 0 ≤ R p 8 ∧ R p 8 ≤ 8 := by omega
  have nn9 : 0 ≤ R p 9 ∧ R p 9 ≤ 16 := by omega
  have nn2 : 0 ≤ R p 2 ∧ R p 2 ≤ 6000 := by have := hU.2; omega
  have hq : (q : Int) < R p 7 := by
    have e := Int.emod_lt_of_pos (x / 4) (show 0 < R p 7 by omega)
    omega
  have TR := gn.trip (t := (q : Int)) (by omega) hq
  have RT := hs.1.2.2.2.1.2.2.2.2.1 (q : Int) (by omega) (by omega)
  refine o_iload (pc := 599) dL_act_599 4 rfl ?_
  refine o_iconst (pc := 601) dL_act_601 ?_
  refine o_irem (pc := 602) dL_act_602 (by omega) (by omega) ?_
  refine o_if_ne (pc := 603) 708 dL_act_603 (by decide) (by unfold inI; omega) (fun c_603 => (by exfalso; omega)) (fun c_603 => ?_)
  refine o_aload (pc := 606) dL_act_606 3 rfl ?_
  refine o_gR (pc := 608) (j := 9) (56) (((V p).2.1.1 2)) dL_act_608 flL_124 rfl rfl hW.mW (hW.r 2) ?_
  refine o_callV (pc := 611) _ dL_act_611 (cl_isEmpty (hW.l 2)) lkL_69 rfl rfl rfl rfl (hW.l 2).1 ⟨⟨by simp only [rmL, rmD]; omega, by simp only [rmL, rmD]; omega⟩, by simp only [rmL, rmD]; omega, by simp only [rmL, rmD]; omega⟩ (Nat.le_of_ble_eq_true rfl) rfl (fun v h2 hq2 => ?_)
  obtain ⟨rfl, e2⟩ := hq2
  obtain rfl := e2.symm
  rw [if_neg (show ¬ (nj (R p) 2).toNat = 0 by change ¬ (R p 7).toNat = 0; omega)]
  refine o_if_ne (pc := 614) 708 dL_act_614 (by decide) (by unfold inI; omega) (fun c_614 => (by exfalso; omega)) (fun c_614 => ?_)
  refine o_iload (pc := 617) dL_act_617 4 rfl ?_
  refine o_iconst (pc := 619) dL_act_619 ?_
  refine o_idiv (pc := 620) dL_act_620 (by omega) (by omega) ?_
  refine o_aload (pc := 621) dL_act_621 3 rfl ?_
  refine o_gR (pc := 623) (j := 9) (56) (((V p).2.1.1 2)) dL_act_623 flL_124 rfl rfl hW.mW (hW.r 2) ?_
  refine o_callV (pc := 626) _ dL_act_626 (cl_size (hW.l 2)) lkL_73 rfl rfl rfl rfl (hW.l 2).1 ⟨⟨by simp only [rmL, rmD]; omega, by simp only [rmL, rmD]; omega⟩, by simp only [rmL, rmD]; omega, by simp only [rmL, rmD]; omega⟩ (Nat.le_of_ble_eq_true rfl) rfl (fun v h2 hq2 => ?_)
  obtain ⟨rfl, e2⟩ := hq2
  obtain rfl := e2.symm
  refine o_topI (y := R p 7) (by show (((R p 7).toNat : Nat) : Int) = _; omega) ?_
  refine o_irem (pc := 629) dL_act_629 (by omega) (by omega) ?_
  refine o_topI (y := (q : Int)) hqe ?_
  refine o_istore (pc := 630) (lv' := [(14, _), (0, _), (1, _), (2, _), (4, _), (5, _), (7, _), (8, _), (9, _), (10, _), (11, _)]) dL_act_630 (by decide) rfl ?_
  refine o_aload (pc := 632) dL_act_632 4 rfl ?_
  refine o_gR (pc := 634) (j := 9) (56) (((V p).2.1.1 2)) dL_act_634 flL_124 rfl rfl hW.mW (hW.r 2) ?_
  refine o_iload (pc := 637) dL_act_637 0 rfl ?_
  refine o_callV (pc := 639) _ dL_act_639 (hW.get 2 hq) lkL_130 rfl rfl rfl rfl (hW.l 2).1 ⟨⟨by simp only [rmL, rmD]; omega, by simp only [rmL, rmD]; omega⟩, by simp only [rmL, rmD]; omega, by simp only [rmL, rmD]; omega⟩ (Nat.le_of_ble_eq_true rfl) rfl (fun v h2 hq2 => ?_)
  obtain ⟨rfl, e2⟩ := hq2
  obtain rfl := e2.symm
  show YY _ _ _ _ _ (rf G (ak 0 4) (bE (V p).2.1 2 q) :: _) _ _ _ _
  refine o_castI (pc := 642) dL_act_642 clL_233 (shp_ak (by decide)) (hW.mE 2 hq) ?_
  refine o_iconst (pc := 645) dL_act_645 ?_
  refine o_iaI (pc := 646) dL_act_646 (shp_ak (by decide)) (hW.mE 2 hq) (by omega) (by omega) (hW.tv hq (z := 3) (by omega)) ?_
  refine o_if_ne (pc := 647) 654 dL_act_647 (by decide) (by unfold inI; omega) (fun c_647 => (by exfalso; omega)) (fun c_647 => ?_)
  refine o_iconst (pc := 650) dL_act_650 ?_
  refine o_goto (pc := 651) 655 dL_act_651 (by decide) ?_
  refine o_istore (pc := 655) (lv' := [(11, _), (14, _), (0, _), (1, _), (2, _), (4, _), (5, _), (7, _), (8, _), (9, _), (10, _)]) dL_act_655 (by decide) rfl ?_
  refine o_iload (pc := 657) dL_act_657 0 rfl ?_
  refine o_if_eq (pc := 659) 677 dL_act_659 (by decide) (by unfold inI; omega) (fun c_659 => (by exfalso; omega)) (fun c_659 => ?_)
  refine o_aload (pc := 662) dL_act_662 5 rfl ?_
  refine o_gR (pc := 664) (j := 9) (56) (((V p).2.1.1 2)) dL_act_664 flL_124 rfl rfl hW.mW (hW.r 2) ?_
  refine o_iload (pc := 667) dL_act_667 1 rfl ?_
  refine o_callV (pc := 669) _ dL_act_669 (cl_remove (hW.l 2) hn (i := q) (by show q < (R p 7).toNat; omega) (by show (R p 7).toNat ≤ 100; omega)) lkL_272 rfl rfl rfl rfl (hW.l 2).1 ⟨⟨by simp only [rmL, rmD]; omega, by simp only [rmL, rmD]; omega⟩, by simp only [rmL, rmD]; omega, by simp only [rmL, rmD]; omega⟩ (Nat.le_of_ble_eq_true rfl) rfl (fun v H5 hq2 => ?_)
  obtain ⟨rfl, hA5, FA⟩ := hq2
  show YY _ _ _ _ _ (rf G (ak 0 4) (bE (V p).2.1 2 q) :: _) _ _ _ _
  refine o_uq (fun hu => ?_)
  have mx : ∀ i, i < 7 → nj (R p) i ≤ mxj i := fun i hi => (hW.nb i hi).2
  obtain ⟨W5, F5⟩ := WN.rm (N' := dpN (R p) (q : Int)) hW hu 2 (by decide) hq hA5 FA (fun f hf => dpN_lo (by omega) hq (hd_n (by omega)) (by have := hd_b (f := f); omega)) (dpN_j (by omega) hq) (dpN_e (by omega) hq nn7.2 mx) (dpN_r hq)
  have hs5 := hs.fr F5
  have hc5 := F5.cl hcH
  have r75 : R p 7 = H5.2.1 1 0 0 := hs5.1.2.2.2.1.1.2.2.2.2.2.1
  have RT5 := hs5.1.2.2.2.1.2.2.2.2.1 (q : Int) (by omega) (by omega)
  have z5 : H5.2.1 14 0 (q : Int) = 0 := by rw [← RT5.2.2.2]; exact hst
  have hST := (hs5.1.push.dropTrip (i := (q : Int)) (by rw [pushC_0 (by decide)]; omega) (by rw [pushC_0 (by decide)]; exact z5)).more (Nat.le_succ K)
  have hcc : ∀ k i, i ≠ 0 ∨ 22 ≤ k → rmT (pushC H5.2.1) 0 (q : Int) k i = pushC H5.2.1 k i := fun k i z => by
    rcases z with z | z
    · exact rmT_i z
    · rw [rmT_k (by omega)]
  refine o_castI (pc := 672) dL_act_672 clL_233 (shp_ak (by decide)) (F5.1 _ (hW.mE 2 hq)) ?_
  refine o_astore (pc := 675) (lv' := [(15, _), (11, _), (14, _), (0, _), (1, _), (2, _), (4, _), (5, _), (7, _), (8, _), (9, _), (10, _)]) dL_act_675 (by decide) rfl ?_
  refine o_iload (pc := 677) dL_act_677 1 rfl ?_
  refine o_if_eq (pc := 679) 693 dL_act_679 (by decide) (by unfold inI; omega) (fun c_679 => (by exfalso; omega)) (fun c_679 => ?_)
  refine o_aload (pc := 682) dL_act_682 6 rfl ?_
  refine o_gR (pc := 684) (j := 9) (56) (((V p).2.1.1 2)) dL_act_684 flL_124 rfl rfl W5.mW (W5.r 2) ?_
  refine o_callV (pc := 687) _ dL_act_687 (cl_size (W5.l 2)) lkL_73 rfl rfl rfl rfl (W5.l 2).1 ⟨⟨by simp only [rmL, rmD]; omega, by simp only [rmL, rmD]; omega⟩, by simp only [rmL, rmD]; omega, by simp only [rmL, rmD]; omega⟩ (Nat.le_of_ble_eq_true rfl) rfl (fun v h2 hq2 => ?_)
  obtain ⟨rfl, e2⟩ := hq2
  obtain rfl := e2.symm
  refine o_topI (y := R p 7 - 1) (by show (((dpN (R p) (q : Int) 7).toNat : Nat) : Int) = _; rw [dpN_v _ _ (by omega) hq, if_pos rfl]; omega) ?_
  refine o_goto (pc := 690) 695 dL_act_690 (by decide) ?_
  refine o_istore (pc := 695) (lv' := [(12, _), (15, _), (11, _), (14, _), (0, _), (1, _), (2, _), (4, _), (5, _), (7, _), (8, _), (9, _), (10, _)]) dL_act_695 (by decide) rfl ?_
  refine o_aload_n (pc := 697) dL_act_697 4 rfl ?_
  refine o_iload (pc := 698) dL_act_698 3 rfl ?_
  refine o_callC (pc := 700) _ dL_act_700 (fun G' hG => P_dropTrip1 (m := H5.2.1) hs5.1.1 hs5.1.2.1 hs5.1.2.2.2.2.2.2.1 hs5.2.1 hs5.2.2 (a0 := (q : Int)) (by unfold inI; omega) (by omega) z5) lkL_316 rfl rfl hc5 ⟨⟨by simp only [rmL, rmD]; omega, by simp only [rmL, rmD]; omega⟩, by simp only [rmL, rmD]; omega, by simp only [rmL, rmD]; omega⟩ (Nat.le_of_ble_eq_true rfl) rfl (fun n1 => ?_)
  refine o_topI (y := R p 7 - 1) (by rw [rmT_1, pushC_0 (by decide)]; omega) ?_
  refine o_istore (pc := 703) (lv' := [(13, _), (12, _), (15, _), (11, _), (14, _), (0, _), (1, _), (2, _), (4, _), (5, _), (7, _), (8, _), (9, _), (10, _)]) dL_act_703 (by decide) rfl ?_
  refine o_goto (pc := 705) 1327 dL_act_705 (by decide) ?_
  exact o_lv [5, 6, 7, 13, 3, 1, 0] rfl (ac_fin1 I (Nat.le_succ K) F W2 F5 W5 (fun _ z => .inl z) hcc hST ((hU.more (Nat.le_succ K)).drop (by omega) hq nn7.2 nn5.2) (by first | omega | (simp only [rmL, rmD]; omega)) (by first | omega | (simp only [rmL, rmD]; omega)))
