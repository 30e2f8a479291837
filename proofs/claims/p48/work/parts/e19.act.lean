/-! acts: the cases put together -/
theorem betF_r (N : Int → Int) (a b : Int) : ∀ (n : Nat) (c : Int), betF N a b c n = -1 ∨ c ≤ betF N a b c n ∧ betF N a b c n < c + n := by
  intro n
  induction n with
  | zero => intro c; exact .inl rfl
  | succ n ih =>
    intro c
    have e : betF N a b c (n + 1) = if (N (86 + 6 * c + 0) = a ∧ N (86 + 6 * c + 1) = b) ∨ (N (86 + 6 * c + 0) = b ∧ N (86 + 6 * c + 1) = a) then c else betF N a b (c + 1) n := rfl
    rw [e]
    split
    · exact .inr (by omega)
    · rcases ih (c + 1) with h | h
      · exact .inl h
      · exact .inr (by omega)
theorem betN_r {N : Int → Int} (h5 : 0 ≤ N 5) (a b : Int) : betN N a b = -1 ∨ 0 ≤ betN N a b ∧ betN N a b < N 5 := by
  have h := betF_r N a b (N 5).toNat 0
  unfold betN
  omega
theorem AI.nb {G : GG} {h : Hp} {V : Nat → Vw} {R : Nat → Int → Int} {p : Nat} {T : Nat → Prop} {pl c b aw K : Nat} (I : AI G h V R p T pl c b aw K) : (0 ≤ R p 3 ∧ R p 3 ≤ 8) ∧ (0 ≤ R p 5 ∧ R p 5 ≤ 12) ∧ (0 ≤ R p 7 ∧ R p 7 ≤ 16) ∧ (0 ≤ R p 8 ∧ R p 8 ≤ 8) ∧ 0 ≤ R p 9 ∧ R p 9 ≤ 16 := ⟨I.w.nb 3, I.w.nb 4, I.w.nb 2, I.w.nb 5, I.w.nb 6⟩
theorem md_nat (x : Int) {n : Int} (hn : 0 < n) : ∃ q : Nat, x % n = (q : Int) := ⟨(x % n).toNat, by have := Int.emod_nonneg x (show n ≠ 0 by omega); omega⟩
theorem ac_708 {G : GG} {h H : Hp} {V : Nat → Vw} {R : Nat → Int → Int} {p : Nat} {T : Nat → Prop} {pl c b aw K w2 : Nat} {B2 : Bok} (I : AI G h V R p T pl c b aw K) (F : Fr (fun _ => False) h H) (W2 : WN G H w2 (R p) B2 (snew h H) T) (hK : K ≤ 99) {x : Int} (hx : 0 ≤ x ∧ x < 134217728) {c0 s0 : Nat} (hcs : c0 ≤ 760) (hss : s0 ≤ 14500) (h3 : 0 < R p 3) : YY G ML_act (rmL 12 2500 24000) 708 [(0, rf G 38 0), (1, rf G (ak 8 1) aw), (2, rf G 56 pl), (4, rf G 51 (V p).1), (5, .int (iI x)), (7, .int (iI (R p 3))), (8, .int (iI (R p 8))), (9, .int (iI (R p 9))), (10, rf G 51 w2), (11, .int (iI 1))] [] H c0 s0 (fun v h1 => v = some (.int (iI 1)) ∧ ∃ V' R' p' c' b', AI G h1 V' R' p' T pl c' b' aw (K + 1)) := by
  obtain ⟨n3, n5, n7, n8, n9⟩ := I.nb
  obtain ⟨q, hqe⟩ := md_nat x h3
  by_cases h16 : R p 7 = 16
  · exact ac_8a0 I F W2 hK hx hcs hss hqe h3 h16
  · by_cases hlt : max 0 (R p 2 - 2 + x / 8 % 40) < R p 2
    · exact ac_8a1 I F W2 hK hx hcs hss hqe h3 (by omega) hlt
    · exact ac_8a2 I F W2 hK hx hcs hss hqe h3 (by omega) (by omega)
theorem ac_8s {G : GG} {h H : Hp} {V : Nat → Vw} {R : Nat → Int → Int} {p : Nat} {T : Nat → Prop} {pl c b aw K w2 : Nat} {B2 : Bok} (I : AI G h V R p T pl c b aw K) (F : Fr (fun _ => False) h H) (W2 : WN G H w2 (R p) B2 (snew h H) T) (hK : K ≤ 99) {x : Int} (hx : 0 ≤ x ∧ x < 134217728) {c0 s0 : Nat} (hcs : c0 ≤ 760) (hss : s0 ≤ 14500) (h3 : 0 < R p 3) (hno : x % 3 = 0 → R p 7 = 0) : YY G ML_act (rmL 12 2500 24000) 599 [(0, rf G 38 0), (1, rf G (ak 8 1) aw), (2, rf G 56 pl), (4, rf G 51 (V p).1), (5, .int (iI x)), (7, .int (iI (R p 3))), (8, .int (iI (R p 8))), (9, .int (iI (R p 9))), (10, rf G 51 w2), (11, .int (iI 1))] [] H c0 s0 (fun v h1 => v = some (.int (iI 1)) ∧ ∃ V' R' p' c' b', AI G h1 V' R' p' T pl c' b' aw (K + 1)) := by
  have p8 := I.2.1.p8
  have hW := I.w.fr0 F
  have hs := I.2.1.1.fr F
  have hcH := F.cl I.1
  have gn := hs.gn
  have hU := I.2.2.1 p (Nat.le_refl p)
  have hn := F.2.2.2.2
  have r3 := hs.1.2.2.1.1.2.2.1
  have r5 := hs.1.2.2.1.1.2.2.2.2.2.1
  have r8 := hs.1.2.2.1.1.2.2.2.2.2.2
  have r7 := hs.1.2.2.2.1.1.2.2.2.2.2.1
  have r9 := hs.1.2.2.2.1.1.2.2.2.2.2.2
  have r2 := hs.1.2.2.2.1.1.1
  have b2 := hs.1.2.1.1
  have b3 := hs.1.1.2.2.1
  have b5 := hs.1.1.2.2.2.2.2.1
  have b8 := hs.1.1.2.2.2.2.2.2.1
  have b7 := hs.1.2.1.2.2.2.1.1
  have b9 := hs.1.2.1.2.2.2.2.1.1
  have nn3 : 0 ≤ R p 3 ∧ R p 3 ≤ 8 := by omega
  have nn5 : 0 ≤ R p 5 ∧ R p 5 ≤ 12 := by omega
  have nn7 : 0 ≤ R p 7 ∧ R p 7 ≤ 16 := by omega
  have nn8 : 0 ≤ R p 8 ∧ R p 8 ≤ 8 := by omega
  have nn9 : 0 ≤ R p 9 ∧ R p 9 ≤ 16 := by omega
  have nn2 : 0 ≤ R p 2 ∧ R p 2 ≤ 6000 := by have := hU.2; omega
  refine o_iload (pc := 599) dL_act_599 4 rfl ?_
  refine o_iconst (pc := 601) dL_act_601 ?_
  refine o_irem (pc := 602) dL_act_602 (by omega) (by omega) ?_
  refine o_if_ne (pc := 603) 708 dL_act_603 (by decide) (by unfold inI; omega) (fun c_603 => ?_) (fun c_603 => ?_)
  · exact o_lv [0, 1, 2, 3, 4, 5, 6, 7, 8, 9] rfl (ac_708 I F W2 hK hx (by first | omega | (simp only [rmL, rmD]; omega)) (by first | omega | (simp only [rmL, rmD]; omega)) h3)
  · refine o_aload (pc := 606) dL_act_606 3 rfl ?_
    refine o_gR (pc := 608) (j := 9) (56) (((V p).2.1.1 2)) dL_act_608 flL_124 rfl rfl hW.mW (hW.r 2) ?_
    refine o_callV (pc := 611) _ dL_act_611 (cl_isEmpty (hW.l 2)) lkL_69 rfl rfl rfl rfl (hW.l 2).1 ⟨⟨by simp only [rmL, rmD]; omega, by simp only [rmL, rmD]; omega⟩, by simp only [rmL, rmD]; omega, by simp only [rmL, rmD]; omega⟩ (Nat.le_of_ble_eq_true rfl) rfl (fun v h2 hq2 => ?_)
    obtain ⟨rfl, e2⟩ := hq2
    obtain rfl := e2.symm
    rw [if_pos (show (nj (R p) 2).toNat = 0 by change (R p 7).toNat = 0; omega)]
    refine o_if_ne (pc := 614) 708 dL_act_614 (by decide) (by unfold inI; omega) (fun c_614 => ?_) (fun c_614 => (by exfalso; omega))
    exact o_lv [0, 1, 2, 3, 4, 5, 6, 7, 8, 9] rfl (ac_708 I F W2 hK hx (by first | omega | (simp only [rmL, rmD]; omega)) (by first | omega | (simp only [rmL, rmD]; omega)) h3)
theorem ac_599 {G : GG} {h H : Hp} {V : Nat → Vw} {R : Nat → Int → Int} {p : Nat} {T : Nat → Prop} {pl c b aw K w2 : Nat} {B2 : Bok} (I : AI G h V R p T pl c b aw K) (F : Fr (fun _ => False) h H) (W2 : WN G H w2 (R p) B2 (snew h H) T) (hK : K ≤ 99) {x : Int} (hx : 0 ≤ x ∧ x < 134217728) {c0 s0 : Nat} (hcs : c0 ≤ 760) (hss : s0 ≤ 14500) (h3 : 0 < R p 3) : YY G ML_act (rmL 12 2500 24000) 599 [(0, rf G 38 0), (1, rf G (ak 8 1) aw), (2, rf G 56 pl), (4, rf G 51 (V p).1), (5, .int (iI x)), (7, .int (iI (R p 3))), (8, .int (iI (R p 8))), (9, .int (iI (R p 9))), (10, rf G 51 w2), (11, .int (iI 1))] [] H c0 s0 (fun v h1 => v = some (.int (iI 1)) ∧ ∃ V' R' p' c' b', AI G h1 V' R' p' T pl c' b' aw (K + 1)) := by
  obtain ⟨n3, n5, n7, n8, n9⟩ := I.nb
  by_cases hx3 : x % 3 = 0
  · by_cases h7 : 0 < R p 7
    · obtain ⟨q, hqe⟩ := md_nat (x / 4) h7
      by_cases hst : R p (206 + 4 * (q : Int) + 3) = 0
      · exact ac_8d1 I F W2 hK hx hcs hss hx3 h7 hqe hst
      · exact ac_8d0 I F W2 hK hx hcs hss hx3 h7 hqe hst
    · exact ac_8s I F W2 hK hx hcs hss h3 (fun _ => by omega)
  · exact ac_8s I F W2 hK hx hcs hss h3 (fun z => absurd z hx3)
theorem ac_484 {G : GG} {h H : Hp} {V : Nat → Vw} {R : Nat → Int → Int} {p : Nat} {T : Nat → Prop} {pl c b aw K w2 : Nat} {B2 : Bok} (I : AI G h V R p T pl c b aw K) (F : Fr (fun _ => False) h H) (W2 : WN G H w2 (R p) B2 (snew h H) T) (hK : K ≤ 99) {x : Int} (hx : 0 ≤ x ∧ x < 134217728) {c0 s0 : Nat} (hcs : c0 ≤ 760) (hss : s0 ≤ 14500) (h3 : 0 < R p 3) : YY G ML_act (rmL 12 2500 24000) 484 [(0, rf G 38 0), (1, rf G (ak 8 1) aw), (2, rf G 56 pl), (4, rf G 51 (V p).1), (5, .int (iI x)), (7, .int (iI (R p 3))), (8, .int (iI (R p 8))), (9, .int (iI (R p 9))), (10, rf G 51 w2), (11, .int (iI 1))] [] H c0 s0 (fun v h1 => v = some (.int (iI 1)) ∧ ∃ V' R' p' c' b', AI G h1 V' R' p' T pl c' b' aw (K + 1)) := by
  obtain ⟨n3, n5, n7, n8, n9⟩ := I.nb
  obtain ⟨q, hqe⟩ := md_nat x h3
  obtain ⟨r, hre⟩ := md_nat (x / 8) h3
  rcases betN_r n5.1 (q : Int) (r : Int) with hb | hb
  · exact ac_7n I F W2 hK hx hcs hss hqe hre h3 hb
  · exact ac_7y I F W2 hK hx hcs hss hqe hre h3 (c1 := (betN (R p) q r).toNat) (by omega) (by omega)
theorem ac_869 {G : GG} {h H : Hp} {V : Nat → Vw} {R : Nat → Int → Int} {p : Nat} {T : Nat → Prop} {pl c b aw K w2 : Nat} {B2 : Bok} (I : AI G h V R p T pl c b aw K) (F : Fr (fun _ => False) h H) (W2 : WN G H w2 (R p) B2 (snew h H) T) (hK : K ≤ 99) {x : Int} (hx : 0 ≤ x ∧ x < 134217728) {c0 s0 : Nat} (hcs : c0 ≤ 760) (hss : s0 ≤ 14500) (h8 : 0 < R p 8) : YY G ML_act (rmL 12 2500 24000) 869 [(0, rf G 38 0), (1, rf G (ak 8 1) aw), (2, rf G 56 pl), (4, rf G 51 (V p).1), (5, .int (iI x)), (7, .int (iI (R p 3))), (8, .int (iI (R p 8))), (9, .int (iI (R p 9))), (10, rf G 51 w2), (11, .int (iI 1))] [] H c0 s0 (fun v h1 => v = some (.int (iI 1)) ∧ ∃ V' R' p' c' b', AI G h1 V' R' p' T pl c' b' aw (K + 1)) := by
  obtain ⟨n3, n5, n7, n8, n9⟩ := I.nb
  obtain ⟨q, hqe⟩ := md_nat x h8
  by_cases hh : hinN (R p) q (1 + x / 8 % 80) = 0
  · exact ac_9y I F W2 hK hx hcs hss hqe h8 (fun y hy => by rw [← hy]; exact hh)
  · exact ac_9n I F W2 hK hx hcs hss hqe h8 (fun y hy => by rw [← hy]; exact hh)
theorem ac_1044 {G : GG} {h H : Hp} {V : Nat → Vw} {R : Nat → Int → Int} {p : Nat} {T : Nat → Prop} {pl c b aw K w2 : Nat} {B2 : Bok} (I : AI G h V R p T pl c b aw K) (F : Fr (fun _ => False) h H) (W2 : WN G H w2 (R p) B2 (snew h H) T) (hK : K ≤ 99) {x : Int} (hx : 0 ≤ x ∧ x < 134217728) {c0 s0 : Nat} (hcs : c0 ≤ 760) (hss : s0 ≤ 14500) (h9 : 0 < R p 9) : YY G ML_act (rmL 12 2500 24000) 1044 [(0, rf G 38 0), (1, rf G (ak 8 1) aw), (2, rf G 56 pl), (4, rf G 51 (V p).1), (5, .int (iI x)), (7, .int (iI (R p 3))), (8, .int (iI (R p 8))), (9, .int (iI (R p 9))), (10, rf G 51 w2), (11, .int (iI 1))] [] H c0 s0 (fun v h1 => v = some (.int (iI 1)) ∧ ∃ V' R' p' c' b', AI G h1 V' R' p' T pl c' b' aw (K + 1)) := by
  obtain ⟨n3, n5, n7, n8, n9⟩ := I.nb
  obtain ⟨q, hqe⟩ := md_nat x h9
  have hm : x / 32 % 3 = 0 ∨ x / 32 % 3 = 1 ∨ x / 32 % 3 = 2 := by omega
  by_cases hst : R p (318 + 7 * (q : Int) + 5) ≤ 2
  · rcases hm with hw | hw | hw
    · exact ac_12_0y I F W2 hK hx hcs hss hqe hw h9 hst
    · exact ac_12_1y I F W2 hK hx hcs hss hqe hw h9 hst
    · exact ac_12_2y I F W2 hK hx hcs hss hqe hw h9 hst
  · rcases hm with hw | hw | hw
    · exact ac_12_0n I F W2 hK hx hcs hss hqe hw h9 (by omega)
    · exact ac_12_1n I F W2 hK hx hcs hss hqe hw h9 (by omega)
    · exact ac_12_2n I F W2 hK hx hcs hss hqe hw h9 (by omega)
theorem ac_145 {G : GG} {h : Hp} {V : Nat → Vw} {R : Nat → Int → Int} {p : Nat} {T : Nat → Prop} {pl c b aw K : Nat} (I : AI G h V R p T pl c b aw K) (hK : K ≤ 99) {x w : Int} (hx : 0 ≤ x ∧ x < 134217728) (hw : 0 ≤ w ∧ w < 14) (h3 : 4 ≤ w → w ≤ 8 → 0 < R p 3) (h8 : 9 ≤ w → w ≤ 11 → 0 < R p 8) (h9 : 12 ≤ w → 0 < R p 9) : YY G ML_act (rmL 12 2500 24000) 145 [(0, rf G 38 0), (1, rf G (ak 8 1) aw), (2, rf G 56 pl), (4, rf G 51 (V p).1), (5, .int (iI x)), (6, .int (iI w)), (7, .int (iI (R p 3))), (8, .int (iI (R p 8))), (9, .int (iI (R p 9)))] [] h 0 0 (fun v h1 => v = some (.int (iI 1)) ∧ ∃ V' R' p' c' b', AI G h1 V' R' p' T pl c' b' aw (K + 1)) := by
  have hs := I.2.1.1
  have r8 := hs.1.2.2.1.1.2.2.2.2.2.2
  have hbk : ∀ k : Nat, 0 ≤ (k : Int) → (k : Int) < R p 8 → R p (270 + 6 * (k : Int) + 5) = 0 ∨ R p (270 + 6 * (k : Int) + 5) = 1 := fun k k0 k1 => by
    have bk := hs.1.2.1.2.2.2.2.2 (k : Int) (by omega) (by omega)
    rw [← hs.1.2.2.2.1.2.2.2.2.2.1 (k : Int) (by omega) (by omega)] at bk
    omega
  refine o_aload (pc := 145) dL_act_145 3 rfl ?_
  refine o_callV (pc := 147) _ dL_act_147 (cw_copy I.w I.2.2.2.2.2.2.1 hbk I.2.2.2.2.2.2.2) lkL_278 rfl rfl rfl rfl I.w.mW ⟨⟨by simp only [rmL, rmD]; omega, by simp only [rmL, rmD]; omega⟩, by simp only [rmL, rmD]; omega, by simp only [rmL, rmD]; omega⟩ (Nat.le_of_ble_eq_true rfl) rfl (fun v H hq2 => ?_)
  obtain ⟨w2, B2, rfl, W2, F⟩ := hq2
  refine o_astore (pc := 150) (lv' := [(10, _), (0, _), (1, _), (2, _), (4, _), (5, _), (6, _), (7, _), (8, _), (9, _)]) dL_act_150 (by decide) rfl ?_
  refine o_iconst (pc := 152) dL_act_152 ?_
  refine o_istore (pc := 153) (lv' := [(11, _), (10, _), (0, _), (1, _), (2, _), (4, _), (5, _), (6, _), (7, _), (8, _), (9, _)]) dL_act_153 (by decide) rfl ?_
  refine o_iload (pc := 155) dL_act_155 7 rfl ?_
  by_cases e0 : w = 0
  · refine o_topI e0 ?_
    refine o_tabIn (pc := 157) 224 dL_act_157 (by unfold inI; omega) (by decide) (by decide) rfl (by decide) ?_
    exact o_lv [2, 3, 4, 5, 6, 8, 9, 10, 1, 0] rfl (ac_0 I F W2 hK hx (by first | omega | (simp only [rmL, rmD]; omega)) (by first | omega | (simp only [rmL, rmD]; omega)))
  by_cases e1 : w = 1
  · refine o_topI e1 ?_
    refine o_tabIn (pc := 157) 224 dL_act_157 (by unfold inI; omega) (by decide) (by decide) rfl (by decide) ?_
    exact o_lv [2, 3, 4, 5, 6, 8, 9, 10, 1, 0] rfl (ac_0 I F W2 hK hx (by first | omega | (simp only [rmL, rmD]; omega)) (by first | omega | (simp only [rmL, rmD]; omega)))
  by_cases e2 : w = 2
  · refine o_topI e2 ?_
    refine o_tabIn (pc := 157) 224 dL_act_157 (by unfold inI; omega) (by decide) (by decide) rfl (by decide) ?_
    exact o_lv [2, 3, 4, 5, 6, 8, 9, 10, 1, 0] rfl (ac_0 I F W2 hK hx (by first | omega | (simp only [rmL, rmD]; omega)) (by first | omega | (simp only [rmL, rmD]; omega)))
  by_cases e3 : w = 3
  · refine o_topI e3 ?_
    refine o_tabIn (pc := 157) 224 dL_act_157 (by unfold inI; omega) (by decide) (by decide) rfl (by decide) ?_
    exact o_lv [2, 3, 4, 5, 6, 8, 9, 10, 1, 0] rfl (ac_0 I F W2 hK hx (by first | omega | (simp only [rmL, rmD]; omega)) (by first | omega | (simp only [rmL, rmD]; omega)))
  by_cases e4 : w = 4
  · refine o_topI e4 ?_
    refine o_tabIn (pc := 157) 272 dL_act_157 (by unfold inI; omega) (by decide) (by decide) rfl (by decide) ?_
    exact o_lv [2, 3, 4, 5, 6, 8, 9, 10, 1, 0] rfl (ac_4 I F W2 hK hx (by first | omega | (simp only [rmL, rmD]; omega)) (by first | omega | (simp only [rmL, rmD]; omega)) (h3 (by omega) (by omega)))
  by_cases e5 : w = 5
  · refine o_topI e5 ?_
    refine o_tabIn (pc := 157) 347 dL_act_157 (by unfold inI; omega) (by decide) (by decide) rfl (by decide) ?_
    exact o_lv [2, 3, 4, 5, 6, 8, 9, 10, 1, 0] rfl (ac_5 I F W2 hK hx (by first | omega | (simp only [rmL, rmD]; omega)) (by first | omega | (simp only [rmL, rmD]; omega)) (h3 (by omega) (by omega)))
  by_cases e6 : w = 6
  · refine o_topI e6 ?_
    refine o_tabIn (pc := 157) 427 dL_act_157 (by unfold inI; omega) (by decide) (by decide) rfl (by decide) ?_
    exact o_lv [2, 3, 4, 5, 6, 8, 9, 10, 1, 0] rfl (ac_6 I F W2 hK hx (by first | omega | (simp only [rmL, rmD]; omega)) (by first | omega | (simp only [rmL, rmD]; omega)) (h3 (by omega) (by omega)))
  by_cases e7 : w = 7
  · refine o_topI e7 ?_
    refine o_tabIn (pc := 157) 484 dL_act_157 (by unfold inI; omega) (by decide) (by decide) rfl (by decide) ?_
    exact o_lv [2, 3, 4, 5, 6, 8, 9, 10, 1, 0] rfl (ac_484 I F W2 hK hx (by first | omega | (simp only [rmL, rmD]; omega)) (by first | omega | (simp only [rmL, rmD]; omega)) (h3 (by omega) (by omega)))
  by_cases e8 : w = 8
  · refine o_topI e8 ?_
    refine o_tabIn (pc := 157) 599 dL_act_157 (by unfold inI; omega) (by decide) (by decide) rfl (by decide) ?_
    exact o_lv [2, 3, 4, 5, 6, 8, 9, 10, 1, 0] rfl (ac_599 I F W2 hK hx (by first | omega | (simp only [rmL, rmD]; omega)) (by first | omega | (simp only [rmL, rmD]; omega)) (h3 (by omega) (by omega)))
  by_cases e9 : w = 9
  · refine o_topI e9 ?_
    refine o_tabIn (pc := 157) 869 dL_act_157 (by unfold inI; omega) (by decide) (by decide) rfl (by decide) ?_
    exact o_lv [2, 3, 4, 5, 6, 8, 9, 10, 1, 0] rfl (ac_869 I F W2 hK hx (by first | omega | (simp only [rmL, rmD]; omega)) (by first | omega | (simp only [rmL, rmD]; omega)) (h8 (by omega) (by omega)))
  by_cases e10 : w = 10
  · refine o_topI e10 ?_
    refine o_tabIn (pc := 157) 869 dL_act_157 (by unfold inI; omega) (by decide) (by decide) rfl (by decide) ?_
    exact o_lv [2, 3, 4, 5, 6, 8, 9, 10, 1, 0] rfl (ac_869 I F W2 hK hx (by first | omega | (simp only [rmL, rmD]; omega)) (by first | omega | (simp only [rmL, rmD]; omega)) (h8 (by omega) (by omega)))
  by_cases e11 : w = 11
  · refine o_topI e11 ?_
    refine o_tabIn (pc := 157) 991 dL_act_157 (by unfold inI; omega) (by decide) (by decide) rfl (by decide) ?_
    exact o_lv [2, 3, 4, 5, 6, 8, 9, 10, 1, 0] rfl (ac_11 I F W2 hK hx (by first | omega | (simp only [rmL, rmD]; omega)) (by first | omega | (simp only [rmL, rmD]; omega)) (h8 (by omega) (by omega)))
  by_cases e12 : w = 12
  · refine o_topI e12 ?_
    refine o_tabIn (pc := 157) 1044 dL_act_157 (by unfold inI; omega) (by decide) (by decide) rfl (by decide) ?_
    exact o_lv [2, 3, 4, 5, 6, 8, 9, 10, 1, 0] rfl (ac_1044 I F W2 hK hx (by first | omega | (simp only [rmL, rmD]; omega)) (by first | omega | (simp only [rmL, rmD]; omega)) (h9 (by omega)))
  refine o_tabOut (pc := 157) 1242 dL_act_157 (by unfold inI; omega) (by omega) (by decide) ?_
  exact o_lv [2, 3, 4, 5, 6, 8, 9, 10, 1, 0] rfl (ac_13 I F W2 hK hx (by first | omega | (simp only [rmL, rmD]; omega)) (by first | omega | (simp only [rmL, rmD]; omega)) (h9 (by omega)))
theorem ac_act {G : GG} {h : Hp} {V : Nat → Vw} {R : Nat → Int → Int} {p : Nat} {T : Nat → Prop} {pl c b aw K : Nat} (I : AI G h V R p T pl c b aw K) (hK : K ≤ 99) {v : Int} (hv : 0 ≤ v ∧ v < 2147483648) : Cy G ML_act (rmL 12 2500 24000) [rf G 38 0, rf G (ak 8 1) aw, rf G 56 pl, .int (iI v)] h (fun v h1 => v = some (.int (iI 1)) ∧ ∃ V' R' p' c' b', AI G h1 V' R' p' T pl c' b' aw (K + 1)) := by
  refine o_entry (by decide +kernel) mwL_act rfl (Nat.le_of_ble_eq_true rfl) ?_
  show YY G ML_act (rmL 12 2500 24000) 0 [(0, rf G 38 0), (1, rf G (ak 8 1) aw), (2, rf G 56 pl), (3, .int (iI v))] [] h 0 0 _
  obtain ⟨n3, n5, n7, n8, n9⟩ := I.nb
  obtain ⟨x, hxe⟩ : ∃ x : Int, v / 16 = x := ⟨_, rfl⟩
  obtain ⟨w, hwe⟩ : ∃ w : Int, v % 15 = w := ⟨_, rfl⟩
  have hx : 0 ≤ x ∧ x < 134217728 := by omega
  have hw : 0 ≤ w ∧ w < 15 := by omega
  refine o_aload_n (pc := 0) dL_act_0 1 rfl ?_
  refine o_iconst (pc := 1) dL_act_1 ?_
  refine o_aaI (pc := 2) (tag := 3) (a' := 51) (b' := (V p).1) dL_act_2 (shp_ak (by decide)) rfl I.2.2.2.2.2.1.1 (by omega) (by omega) I.2.2.2.2.2.1.2 ?_
  refine o_astore (pc := 3) (lv' := [(4, _), (0, _), (1, _), (2, _), (3, _)]) dL_act_3 (by decide) rfl ?_
  refine o_iload_n (pc := 5) dL_act_5 4 rfl ?_
  refine o_bipush (pc := 6) (z := 16) dL_act_6 (by decide) ?_
  refine o_idiv (pc := 8) dL_act_8 (by omega) (by omega) ?_
  refine o_topI (y := x) hxe ?_
  refine o_istore (pc := 9) (lv' := [(5, _), (4, _), (0, _), (1, _), (2, _), (3, _)]) dL_act_9 (by decide) rfl ?_
  refine o_iload_n (pc := 11) dL_act_11 5 rfl ?_
  refine o_bipush (pc := 12) (z := 15) dL_act_12 (by decide) ?_
  refine o_irem (pc := 14) dL_act_14 (by omega) (by omega) ?_
  refine o_topI (y := w) hwe ?_
  refine o_istore (pc := 15) (lv' := [(6, _), (5, _), (4, _), (0, _), (1, _), (2, _), (3, _)]) dL_act_15 (by decide) rfl ?_
  refine o_aload (pc := 17) dL_act_17 2 rfl ?_
  refine o_gR (pc := 19) (j := 10) (56) (((V p).2.1.1 3)) dL_act_19 flL_81 rfl rfl I.w.mW (I.w.r 3) ?_
  refine o_callV (pc := 22) _ dL_act_22 (cl_size (I.w.l 3)) lkL_73 rfl rfl rfl rfl (I.w.l 3).1 ⟨⟨by simp only [rmL, rmD]; omega, by simp only [rmL, rmD]; omega⟩, by simp only [rmL, rmD]; omega, by simp only [rmL, rmD]; omega⟩ (Nat.le_of_ble_eq_true rfl) rfl (fun v h2 hq2 => ?_)
  obtain ⟨rfl, e2⟩ := hq2
  obtain rfl := e2.symm
  refine o_topI (y := R p 3) (by show (((R p 3).toNat : Nat) : Int) = _; omega) ?_
  refine o_istore (pc := 25) (lv' := [(7, _), (6, _), (5, _), (4, _), (0, _), (1, _), (2, _), (3, _)]) dL_act_25 (by decide) rfl ?_
  refine o_aload (pc := 27) dL_act_27 3 rfl ?_
  refine o_gR (pc := 29) (j := 12) (56) (((V p).2.1.1 5)) dL_act_29 flL_139 rfl rfl I.w.mW (I.w.r 5) ?_
  refine o_callV (pc := 32) _ dL_act_32 (cl_size (I.w.l 5)) lkL_73 rfl rfl rfl rfl (I.w.l 5).1 ⟨⟨by simp only [rmL, rmD]; omega, by simp only [rmL, rmD]; omega⟩, by simp only [rmL, rmD]; omega, by simp only [rmL, rmD]; omega⟩ (Nat.le_of_ble_eq_true rfl) rfl (fun v h2 hq2 => ?_)
  obtain ⟨rfl, e2⟩ := hq2
  obtain rfl := e2.symm
  refine o_topI (y := R p 8) (by show (((R p 8).toNat : Nat) : Int) = _; omega) ?_
  refine o_istore (pc := 35) (lv' := [(8, _), (7, _), (6, _), (5, _), (4, _), (0, _), (1, _), (2, _), (3, _)]) dL_act_35 (by decide) rfl ?_
  refine o_aload (pc := 37) dL_act_37 4 rfl ?_
  refine o_gR (pc := 39) (j := 13) (56) (((V p).2.1.1 6)) dL_act_39 flL_159 rfl rfl I.w.mW (I.w.r 6) ?_
  refine o_callV (pc := 42) _ dL_act_42 (cl_size (I.w.l 6)) lkL_73 rfl rfl rfl rfl (I.w.l 6).1 ⟨⟨by simp only [rmL, rmD]; omega, by simp only [rmL, rmD]; omega⟩, by simp only [rmL, rmD]; omega, by simp only [rmL, rmD]; omega⟩ (Nat.le_of_ble_eq_true rfl) rfl (fun v h2 hq2 => ?_)
  obtain ⟨rfl, e2⟩ := hq2
  obtain rfl := e2.symm
  refine o_topI (y := R p 9) (by show (((R p 9).toNat : Nat) : Int) = _; omega) ?_
  refine o_istore (pc := 45) (lv' := [(9, _), (8, _), (7, _), (6, _), (5, _), (4, _), (0, _), (1, _), (2, _), (3, _)]) dL_act_45 (by decide) rfl ?_
  refine o_iload (pc := 47) dL_act_47 3 rfl ?_
  refine o_bipush (pc := 49) (z := 14) dL_act_49 (by decide) ?_
  refine o_icmp_ne (pc := 51) 94 dL_act_51 (by decide) (by unfold inI; omega) (by unfold inI; omega) (fun c_51 => ?_) (fun c_51 => ?_)
  · refine o_iload (pc := 94) dL_act_94 2 rfl ?_
    refine o_if_ne (pc := 96) 112 dL_act_96 (by decide) (by unfold inI; omega) (fun c_96 => ?_) (fun c_96 => ?_)
    · refine o_iload (pc := 112) dL_act_112 1 rfl ?_
      refine o_if_ne (pc := 114) 131 dL_act_114 (by decide) (by unfold inI; omega) (fun c_114 => ?_) (fun c_114 => ?_)
      · refine o_iload (pc := 131) dL_act_131 0 rfl ?_
        refine o_if_ne (pc := 133) 145 dL_act_133 (by decide) (by unfold inI; omega) (fun c_133 => ?_) (fun c_133 => ?_)
        · exact o_lv [6, 7, 8, 5, 4, 3, 2, 1, 0] rfl (ac_145 I hK hx (by omega) (fun _ _ => by omega) (fun _ _ => by omega) (fun _ => by omega))
        · refine o_iload (pc := 136) dL_act_136 3 rfl ?_
          refine o_bipush (pc := 138) (z := 11) dL_act_138 (by decide) ?_
          refine o_icmp_le (pc := 140) 145 dL_act_140 (by decide) (by unfold inI; omega) (by unfold inI; omega) (fun c_140 => ?_) (fun c_140 => ?_)
          · exact o_lv [6, 7, 8, 5, 4, 3, 2, 1, 0] rfl (ac_145 I hK hx (by omega) (fun _ _ => by omega) (fun _ _ => by omega) (fun _ => by omega))
          · refine o_iconst (pc := 143) dL_act_143 ?_
            exact o_zret (pc := 144) dL_act_144 rfl rfl (by first | omega | (simp only [rmL, rmD]; omega)) (by first | omega | (simp only [rmL, rmD]; omega)) ⟨rfl, V, R, p, c, b, I.more (Nat.le_succ K)⟩
      · refine o_iload (pc := 117) dL_act_117 3 rfl ?_
        refine o_bipush (pc := 119) (z := 8) dL_act_119 (by decide) ?_
        refine o_icmp_le (pc := 121) 131 dL_act_121 (by decide) (by unfold inI; omega) (by unfold inI; omega) (fun c_121 => ?_) (fun c_121 => ?_)
        · refine o_iload (pc := 131) dL_act_131 0 rfl ?_
          refine o_if_ne (pc := 133) 145 dL_act_133 (by decide) (by unfold inI; omega) (fun c_133 => ?_) (fun c_133 => ?_)
          · exact o_lv [6, 7, 8, 5, 4, 3, 2, 1, 0] rfl (ac_145 I hK hx (by omega) (fun _ _ => by omega) (fun _ _ => by omega) (fun _ => by omega))
          · refine o_iload (pc := 136) dL_act_136 3 rfl ?_
            refine o_bipush (pc := 138) (z := 11) dL_act_138 (by decide) ?_
            refine o_icmp_le (pc := 140) 145 dL_act_140 (by decide) (by unfold inI; omega) (by unfold inI; omega) (fun c_140 => ?_) (fun c_140 => ?_)
            · exact o_lv [6, 7, 8, 5, 4, 3, 2, 1, 0] rfl (ac_145 I hK hx (by omega) (fun _ _ => by omega) (fun _ _ => by omega) (fun _ => by omega))
            · refine o_iconst (pc := 143) dL_act_143 ?_
              exact o_zret (pc := 144) dL_act_144 rfl rfl (by first | omega | (simp only [rmL, rmD]; omega)) (by first | omega | (simp only [rmL, rmD]; omega)) ⟨rfl, V, R, p, c, b, I.more (Nat.le_succ K)⟩
        · refine o_iload (pc := 124) dL_act_124 3 rfl ?_
          refine o_bipush (pc := 126) (z := 12) dL_act_126 (by decide) ?_
          refine o_icmp_lt (pc := 128) 143 dL_act_128 (by decide) (by unfold inI; omega) (by unfold inI; omega) (fun c_128 => ?_) (fun c_128 => ?_)
          · refine o_iconst (pc := 143) dL_act_143 ?_
            exact o_zret (pc := 144) dL_act_144 rfl rfl (by first | omega | (simp only [rmL, rmD]; omega)) (by first | omega | (simp only [rmL, rmD]; omega)) ⟨rfl, V, R, p, c, b, I.more (Nat.le_succ K)⟩
          · refine o_iload (pc := 131) dL_act_131 0 rfl ?_
            refine o_if_ne (pc := 133) 145 dL_act_133 (by decide) (by unfold inI; omega) (fun c_133 => ?_) (fun c_133 => ?_)
            · exact o_lv [6, 7, 8, 5, 4, 3, 2, 1, 0] rfl (ac_145 I hK hx (by omega) (fun _ _ => by omega) (fun _ _ => by omega) (fun _ => by omega))
            · refine o_iload (pc := 136) dL_act_136 3 rfl ?_
              refine o_bipush (pc := 138) (z := 11) dL_act_138 (by decide) ?_
              refine o_icmp_le (pc := 140) 145 dL_act_140 (by decide) (by unfold inI; omega) (by unfold inI; omega) (fun c_140 => ?_) (fun c_140 => ?_)
              · exact o_lv [6, 7, 8, 5, 4, 3, 2, 1, 0] rfl (ac_145 I hK hx (by omega) (fun _ _ => by omega) (fun _ _ => by omega) (fun _ => by omega))
              · refine o_iconst (pc := 143) dL_act_143 ?_
                exact o_zret (pc := 144) dL_act_144 rfl rfl (by first | omega | (simp only [rmL, rmD]; omega)) (by first | omega | (simp only [rmL, rmD]; omega)) ⟨rfl, V, R, p, c, b, I.more (Nat.le_succ K)⟩
    · refine o_iload (pc := 99) dL_act_99 3 rfl ?_
      refine o_iconst (pc := 101) dL_act_101 ?_
      refine o_icmp_le (pc := 102) 112 dL_act_102 (by decide) (by unfold inI; omega) (by unfold inI; omega) (fun c_102 => ?_) (fun c_102 => ?_)
      · refine o_iload (pc := 112) dL_act_112 1 rfl ?_
        refine o_if_ne (pc := 114) 131 dL_act_114 (by decide) (by unfold inI; omega) (fun c_114 => ?_) (fun c_114 => ?_)
        · refine o_iload (pc := 131) dL_act_131 0 rfl ?_
          refine o_if_ne (pc := 133) 145 dL_act_133 (by decide) (by unfold inI; omega) (fun c_133 => ?_) (fun c_133 => ?_)
          · exact o_lv [6, 7, 8, 5, 4, 3, 2, 1, 0] rfl (ac_145 I hK hx (by omega) (fun _ _ => by omega) (fun _ _ => by omega) (fun _ => by omega))
          · refine o_iload (pc := 136) dL_act_136 3 rfl ?_
            refine o_bipush (pc := 138) (z := 11) dL_act_138 (by decide) ?_
            refine o_icmp_le (pc := 140) 145 dL_act_140 (by decide) (by unfold inI; omega) (by unfold inI; omega) (fun c_140 => ?_) (fun c_140 => ?_)
            · exact o_lv [6, 7, 8, 5, 4, 3, 2, 1, 0] rfl (ac_145 I hK hx (by omega) (fun _ _ => by omega) (fun _ _ => by omega) (fun _ => by omega))
            · refine o_iconst (pc := 143) dL_act_143 ?_
              exact o_zret (pc := 144) dL_act_144 rfl rfl (by first | omega | (simp only [rmL, rmD]; omega)) (by first | omega | (simp only [rmL, rmD]; omega)) ⟨rfl, V, R, p, c, b, I.more (Nat.le_succ K)⟩
        · refine o_iload (pc := 117) dL_act_117 3 rfl ?_
          refine o_bipush (pc := 119) (z := 8) dL_act_119 (by decide) ?_
          refine o_icmp_le (pc := 121) 131 dL_act_121 (by decide) (by unfold inI; omega) (by unfold inI; omega) (fun c_121 => ?_) (fun c_121 => ?_)
          · refine o_iload (pc := 131) dL_act_131 0 rfl ?_
            refine o_if_ne (pc := 133) 145 dL_act_133 (by decide) (by unfold inI; omega) (fun c_133 => ?_) (fun c_133 => ?_)
            · exact o_lv [6, 7, 8, 5, 4, 3, 2, 1, 0] rfl (ac_145 I hK hx (by omega) (fun _ _ => by omega) (fun _ _ => by omega) (fun _ => by omega))
            · refine o_iload (pc := 136) dL_act_136 3 rfl ?_
              refine o_bipush (pc := 138) (z := 11) dL_act_138 (by decide) ?_
              refine o_icmp_le (pc := 140) 145 dL_act_140 (by decide) (by unfold inI; omega) (by unfold inI; omega) (fun c_140 => ?_) (fun c_140 => ?_)
              · exact o_lv [6, 7, 8, 5, 4, 3, 2, 1, 0] rfl (ac_145 I hK hx (by omega) (fun _ _ => by omega) (fun _ _ => by omega) (fun _ => by omega))
              · refine o_iconst (pc := 143) dL_act_143 ?_
                exact o_zret (pc := 144) dL_act_144 rfl rfl (by first | omega | (simp only [rmL, rmD]; omega)) (by first | omega | (simp only [rmL, rmD]; omega)) ⟨rfl, V, R, p, c, b, I.more (Nat.le_succ K)⟩
          · refine o_iload (pc := 124) dL_act_124 3 rfl ?_
            refine o_bipush (pc := 126) (z := 12) dL_act_126 (by decide) ?_
            refine o_icmp_lt (pc := 128) 143 dL_act_128 (by decide) (by unfold inI; omega) (by unfold inI; omega) (fun c_128 => ?_) (fun c_128 => ?_)
            · refine o_iconst (pc := 143) dL_act_143 ?_
              exact o_zret (pc := 144) dL_act_144 rfl rfl (by first | omega | (simp only [rmL, rmD]; omega)) (by first | omega | (simp only [rmL, rmD]; omega)) ⟨rfl, V, R, p, c, b, I.more (Nat.le_succ K)⟩
            · refine o_iload (pc := 131) dL_act_131 0 rfl ?_
              refine o_if_ne (pc := 133) 145 dL_act_133 (by decide) (by unfold inI; omega) (fun c_133 => ?_) (fun c_133 => ?_)
              · exact o_lv [6, 7, 8, 5, 4, 3, 2, 1, 0] rfl (ac_145 I hK hx (by omega) (fun _ _ => by omega) (fun _ _ => by omega) (fun _ => by omega))
              · refine o_iload (pc := 136) dL_act_136 3 rfl ?_
                refine o_bipush (pc := 138) (z := 11) dL_act_138 (by decide) ?_
                refine o_icmp_le (pc := 140) 145 dL_act_140 (by decide) (by unfold inI; omega) (by unfold inI; omega) (fun c_140 => ?_) (fun c_140 => ?_)
                · exact o_lv [6, 7, 8, 5, 4, 3, 2, 1, 0] rfl (ac_145 I hK hx (by omega) (fun _ _ => by omega) (fun _ _ => by omega) (fun _ => by omega))
                · refine o_iconst (pc := 143) dL_act_143 ?_
                  exact o_zret (pc := 144) dL_act_144 rfl rfl (by first | omega | (simp only [rmL, rmD]; omega)) (by first | omega | (simp only [rmL, rmD]; omega)) ⟨rfl, V, R, p, c, b, I.more (Nat.le_succ K)⟩
      · refine o_iload (pc := 105) dL_act_105 3 rfl ?_
        refine o_bipush (pc := 107) (z := 9) dL_act_107 (by decide) ?_
        refine o_icmp_lt (pc := 109) 143 dL_act_109 (by decide) (by unfold inI; omega) (by unfold inI; omega) (fun c_109 => ?_) (fun c_109 => ?_)
        · refine o_iconst (pc := 143) dL_act_143 ?_
          exact o_zret (pc := 144) dL_act_144 rfl rfl (by first | omega | (simp only [rmL, rmD]; omega)) (by first | omega | (simp only [rmL, rmD]; omega)) ⟨rfl, V, R, p, c, b, I.more (Nat.le_succ K)⟩
        · refine o_iload (pc := 112) dL_act_112 1 rfl ?_
          refine o_if_ne (pc := 114) 131 dL_act_114 (by decide) (by unfold inI; omega) (fun c_114 => ?_) (fun c_114 => ?_)
          · refine o_iload (pc := 131) dL_act_131 0 rfl ?_
            refine o_if_ne (pc := 133) 145 dL_act_133 (by decide) (by unfold inI; omega) (fun c_133 => ?_) (fun c_133 => ?_)
            · exact o_lv [6, 7, 8, 5, 4, 3, 2, 1, 0] rfl (ac_145 I hK hx (by omega) (fun _ _ => by omega) (fun _ _ => by omega) (fun _ => by omega))
            · refine o_iload (pc := 136) dL_act_136 3 rfl ?_
              refine o_bipush (pc := 138) (z := 11) dL_act_138 (by decide) ?_
              refine o_icmp_le (pc := 140) 145 dL_act_140 (by decide) (by unfold inI; omega) (by unfold inI; omega) (fun c_140 => ?_) (fun c_140 => ?_)
              · exact o_lv [6, 7, 8, 5, 4, 3, 2, 1, 0] rfl (ac_145 I hK hx (by omega) (fun _ _ => by omega) (fun _ _ => by omega) (fun _ => by omega))
              · refine o_iconst (pc := 143) dL_act_143 ?_
                exact o_zret (pc := 144) dL_act_144 rfl rfl (by first | omega | (simp only [rmL, rmD]; omega)) (by first | omega | (simp only [rmL, rmD]; omega)) ⟨rfl, V, R, p, c, b, I.more (Nat.le_succ K)⟩
          · refine o_iload (pc := 117) dL_act_117 3 rfl ?_
            refine o_bipush (pc := 119) (z := 8) dL_act_119 (by decide) ?_
            refine o_icmp_le (pc := 121) 131 dL_act_121 (by decide) (by unfold inI; omega) (by unfold inI; omega) (fun c_121 => ?_) (fun c_121 => ?_)
            · refine o_iload (pc := 131) dL_act_131 0 rfl ?_
              refine o_if_ne (pc := 133) 145 dL_act_133 (by decide) (by unfold inI; omega) (fun c_133 => ?_) (fun c_133 => ?_)
              · exact o_lv [6, 7, 8, 5, 4, 3, 2, 1, 0] rfl (ac_145 I hK hx (by omega) (fun _ _ => by omega) (fun _ _ => by omega) (fun _ => by omega))
              · refine o_iload (pc := 136) dL_act_136 3 rfl ?_
                refine o_bipush (pc := 138) (z := 11) dL_act_138 (by decide) ?_
                refine o_icmp_le (pc := 140) 145 dL_act_140 (by decide) (by unfold inI; omega) (by unfold inI; omega) (fun c_140 => ?_) (fun c_140 => ?_)
                · exact o_lv [6, 7, 8, 5, 4, 3, 2, 1, 0] rfl (ac_145 I hK hx (by omega) (fun _ _ => by omega) (fun _ _ => by omega) (fun _ => by omega))
                · refine o_iconst (pc := 143) dL_act_143 ?_
                  exact o_zret (pc := 144) dL_act_144 rfl rfl (by first | omega | (simp only [rmL, rmD]; omega)) (by first | omega | (simp only [rmL, rmD]; omega)) ⟨rfl, V, R, p, c, b, I.more (Nat.le_succ K)⟩
            · refine o_iload (pc := 124) dL_act_124 3 rfl ?_
              refine o_bipush (pc := 126) (z := 12) dL_act_126 (by decide) ?_
              refine o_icmp_lt (pc := 128) 143 dL_act_128 (by decide) (by unfold inI; omega) (by unfold inI; omega) (fun c_128 => ?_) (fun c_128 => ?_)
              · refine o_iconst (pc := 143) dL_act_143 ?_
                exact o_zret (pc := 144) dL_act_144 rfl rfl (by first | omega | (simp only [rmL, rmD]; omega)) (by first | omega | (simp only [rmL, rmD]; omega)) ⟨rfl, V, R, p, c, b, I.more (Nat.le_succ K)⟩
              · refine o_iload (pc := 131) dL_act_131 0 rfl ?_
                refine o_if_ne (pc := 133) 145 dL_act_133 (by decide) (by unfold inI; omega) (fun c_133 => ?_) (fun c_133 => ?_)
                · exact o_lv [6, 7, 8, 5, 4, 3, 2, 1, 0] rfl (ac_145 I hK hx (by omega) (fun _ _ => by omega) (fun _ _ => by omega) (fun _ => by omega))
                · refine o_iload (pc := 136) dL_act_136 3 rfl ?_
                  refine o_bipush (pc := 138) (z := 11) dL_act_138 (by decide) ?_
                  refine o_icmp_le (pc := 140) 145 dL_act_140 (by decide) (by unfold inI; omega) (by unfold inI; omega) (fun c_140 => ?_) (fun c_140 => ?_)
                  · exact o_lv [6, 7, 8, 5, 4, 3, 2, 1, 0] rfl (ac_145 I hK hx (by omega) (fun _ _ => by omega) (fun _ _ => by omega) (fun _ => by omega))
                  · refine o_iconst (pc := 143) dL_act_143 ?_
                    exact o_zret (pc := 144) dL_act_144 rfl rfl (by first | omega | (simp only [rmL, rmD]; omega)) (by first | omega | (simp only [rmL, rmD]; omega)) ⟨rfl, V, R, p, c, b, I.more (Nat.le_succ K)⟩
  · cases p with
    | zero => exact o_lv [6, 7, 8] rfl (ac_14n (p := 0) I (by first | omega | (simp only [rmL, rmD]; omega)) (by first | omega | (simp only [rmL, rmD]; omega)))
    | succ p => exact o_lv [6, 7, 8] rfl (ac_14y I (by first | omega | (simp only [rmL, rmD]; omega)) (by first | omega | (simp only [rmL, rmD]; omega)))
