/-! what is drawn: the pieces of text, the counts -/
theorem lit_7 : lit 7 = [112, 97, 99, 107, 115, 32] := by decide
theorem lit_l7 : (lit 7).length = 6 := by decide
theorem lit_8 : lit 8 = [59, 99, 117, 114, 118, 101, 32] := by decide
theorem lit_l8 : (lit 8).length = 7 := by decide
theorem lit_9 : lit 9 = [59, 112, 97, 99, 107, 32] := by decide
theorem lit_l9 : (lit 9).length = 6 := by decide
theorem lit_10 : lit 10 = [32, 59, 32, 112, 97, 99, 107, 32] := by decide
theorem lit_l10 : (lit 10).length = 8 := by decide
theorem lit_11 : lit 11 = [59, 99, 97, 98, 108, 101, 32] := by decide
theorem lit_l11 : (lit 11).length = 7 := by decide
theorem lit_12 : lit 12 = [59, 115, 117, 110, 32] := by decide
theorem lit_l12 : (lit 12).length = 5 := by decide
theorem lit_13 : lit 13 = [59, 116, 114, 105, 112, 32] := by decide
theorem lit_l13 : (lit 13).length = 6 := by decide
theorem lit_14 : lit 14 = [59, 99, 111, 110, 116, 114, 97, 99, 116, 32] := by decide
theorem lit_l14 : (lit 14).length = 10 := by decide
theorem tw_1 (T : Int → Int) (a : Int) (h : TXat T a [99, 117, 114, 118, 101]) : ∀ j : Nat, (j : Int) < sL 1 → T (a + (j : Int)) = sB 1 j := by
  intro j hj
  have v := sL_v
  have hj2 : j < 5 := by omega
  obtain ⟨h0, h1, h2, h3, h4, -⟩ := h
  match j, hj2 with
  | 0, _ => rw [show a + ((0 : Nat) : Int) = a by omega]; exact h0.trans (by decide)
  | 1, _ => rw [show a + ((1 : Nat) : Int) = a + 1 by omega]; exact h1.trans (by decide)
  | 2, _ => rw [show a + ((2 : Nat) : Int) = a + 1 + 1 by omega]; exact h2.trans (by decide)
  | 3, _ => rw [show a + ((3 : Nat) : Int) = a + 1 + 1 + 1 by omega]; exact h3.trans (by decide)
  | 4, _ => rw [show a + ((4 : Nat) : Int) = a + 1 + 1 + 1 + 1 by omega]; exact h4.trans (by decide)
  | n + 5, h => exact absurd h (by omega)
theorem tw_2 (T : Int → Int) (a : Int) (h : TXat T a [112, 97, 99, 107]) : ∀ j : Nat, (j : Int) < sL 2 → T (a + (j : Int)) = sB 2 j := by
  intro j hj
  have v := sL_v
  have hj2 : j < 4 := by omega
  obtain ⟨h0, h1, h2, h3, -⟩ := h
  match j, hj2 with
  | 0, _ => rw [show a + ((0 : Nat) : Int) = a by omega]; exact h0.trans (by decide)
  | 1, _ => rw [show a + ((1 : Nat) : Int) = a + 1 by omega]; exact h1.trans (by decide)
  | 2, _ => rw [show a + ((2 : Nat) : Int) = a + 1 + 1 by omega]; exact h2.trans (by decide)
  | 3, _ => rw [show a + ((3 : Nat) : Int) = a + 1 + 1 + 1 by omega]; exact h3.trans (by decide)
  | n + 4, h => exact absurd h (by omega)
theorem tw_3 (T : Int → Int) (a : Int) (h : TXat T a [99, 97, 98, 108, 101]) : ∀ j : Nat, (j : Int) < sL 3 → T (a + (j : Int)) = sB 3 j := by
  intro j hj
  have v := sL_v
  have hj2 : j < 5 := by omega
  obtain ⟨h0, h1, h2, h3, h4, -⟩ := h
  match j, hj2 with
  | 0, _ => rw [show a + ((0 : Nat) : Int) = a by omega]; exact h0.trans (by decide)
  | 1, _ => rw [show a + ((1 : Nat) : Int) = a + 1 by omega]; exact h1.trans (by decide)
  | 2, _ => rw [show a + ((2 : Nat) : Int) = a + 1 + 1 by omega]; exact h2.trans (by decide)
  | 3, _ => rw [show a + ((3 : Nat) : Int) = a + 1 + 1 + 1 by omega]; exact h3.trans (by decide)
  | 4, _ => rw [show a + ((4 : Nat) : Int) = a + 1 + 1 + 1 + 1 by omega]; exact h4.trans (by decide)
  | n + 5, h => exact absurd h (by omega)
theorem tw_4 (T : Int → Int) (a : Int) (h : TXat T a [115, 117, 110]) : ∀ j : Nat, (j : Int) < sL 4 → T (a + (j : Int)) = sB 4 j := by
  intro j hj
  have v := sL_v
  have hj2 : j < 3 := by omega
  obtain ⟨h0, h1, h2, -⟩ := h
  match j, hj2 with
  | 0, _ => rw [show a + ((0 : Nat) : Int) = a by omega]; exact h0.trans (by decide)
  | 1, _ => rw [show a + ((1 : Nat) : Int) = a + 1 by omega]; exact h1.trans (by decide)
  | 2, _ => rw [show a + ((2 : Nat) : Int) = a + 1 + 1 by omega]; exact h2.trans (by decide)
  | n + 3, h => exact absurd h (by omega)
theorem tw_5 (T : Int → Int) (a : Int) (h : TXat T a [116, 114, 105, 112]) : ∀ j : Nat, (j : Int) < sL 5 → T (a + (j : Int)) = sB 5 j := by
  intro j hj
  have v := sL_v
  have hj2 : j < 4 := by omega
  obtain ⟨h0, h1, h2, h3, -⟩ := h
  match j, hj2 with
  | 0, _ => rw [show a + ((0 : Nat) : Int) = a by omega]; exact h0.trans (by decide)
  | 1, _ => rw [show a + ((1 : Nat) : Int) = a + 1 by omega]; exact h1.trans (by decide)
  | 2, _ => rw [show a + ((2 : Nat) : Int) = a + 1 + 1 by omega]; exact h2.trans (by decide)
  | 3, _ => rw [show a + ((3 : Nat) : Int) = a + 1 + 1 + 1 by omega]; exact h3.trans (by decide)
  | n + 4, h => exact absurd h (by omega)
theorem tw_6 (T : Int → Int) (a : Int) (h : TXat T a [99, 111, 110, 116, 114, 97, 99, 116]) : ∀ j : Nat, (j : Int) < sL 6 → T (a + (j : Int)) = sB 6 j := by
  intro j hj
  have v := sL_v
  have hj2 : j < 8 := by omega
  obtain ⟨h0, h1, h2, h3, h4, h5, h6, h7, -⟩ := h
  match j, hj2 with
  | 0, _ => rw [show a + ((0 : Nat) : Int) = a by omega]; exact h0.trans (by decide)
  | 1, _ => rw [show a + ((1 : Nat) : Int) = a + 1 by omega]; exact h1.trans (by decide)
  | 2, _ => rw [show a + ((2 : Nat) : Int) = a + 1 + 1 by omega]; exact h2.trans (by decide)
  | 3, _ => rw [show a + ((3 : Nat) : Int) = a + 1 + 1 + 1 by omega]; exact h3.trans (by decide)
  | 4, _ => rw [show a + ((4 : Nat) : Int) = a + 1 + 1 + 1 + 1 by omega]; exact h4.trans (by decide)
  | 5, _ => rw [show a + ((5 : Nat) : Int) = a + 1 + 1 + 1 + 1 + 1 by omega]; exact h5.trans (by decide)
  | 6, _ => rw [show a + ((6 : Nat) : Int) = a + 1 + 1 + 1 + 1 + 1 + 1 by omega]; exact h6.trans (by decide)
  | 7, _ => rw [show a + ((7 : Nat) : Int) = a + 1 + 1 + 1 + 1 + 1 + 1 + 1 by omega]; exact h7.trans (by decide)
  | n + 8, h => exact absurd h (by omega)
def BY (L : List Int) : Prop := ∀ z ∈ L, 1 ≤ z ∧ z < 128
theorem BY.app {L X : List Int} (h : BY L) (h2 : BY X) : BY (L ++ X) := fun z hz => by
  rcases List.mem_append.mp hz with e | e
  · exact h z e
  · exact h2 z e
theorem BY_lit {t : Nat} (ht : t < 15) : BY (lit t) := fun z hz => by
  obtain ⟨i, h1, h2⟩ := lit_mem hz
  have := sB_b t i ht h1
  omega
theorem BY_dg {n : Int} (h0 : 0 ≤ n) (h1 : n < 1000) : BY (dg n) := fun z hz => by
  have := dg_b h0 h1 z hz
  omega
theorem BY_32 : BY [32] := fun z hz => by
  rw [List.mem_singleton] at hz
  omega
/-- how many there are, and between which packs the cables lie -/
def RC (N : Int → Int) (c0 c1 c2 c3 c4 c5 : Int) : Prop := (N 4 = c0 ∧ N 6 = c1 ∧ N 7 = c2 ∧ N 3 = c3 ∧ N 5 = c4 ∧ N 8 = c5) ∧ N 9 = 0 ∧ N 2 = 0 ∧ ∀ c : Nat, (c : Int) < c4 → N (86 + 6 * (c : Int) + 0) = (c : Int) + 1 ∧ 0 ≤ N (86 + 6 * (c : Int) + 1) ∧ N (86 + 6 * (c : Int) + 1) ≤ (c : Int)
theorem RC.ad {N : Int → Int} {c0 c1 c2 c3 c4 c5 : Int} (h : RC N c0 c1 c2 c3 c4 c5) {j : Nat} {v : Int → Int} (hj : j < 6) (h4 : j ≠ 4) (h0 : 0 ≤ nj N j) (hmx : nj N j + 1 ≤ mxj j) (hm : ∀ i, i < 7 → nj N i ≤ mxj i) : RC (adN N j v) (c0 + if 0 = j then 1 else 0) (c1 + if 1 = j then 1 else 0) (c2 + if 2 = j then 1 else 0) (c3 + if 3 = j then 1 else 0) c4 (c5 + if 5 = j then 1 else 0) := by
  obtain ⟨⟨a0, a1, a2, a3, a4, a5⟩, a9, a2', ac⟩ := h
  have s := sd_pos j
  have m0 : 0 ≤ sd j * nj N j := Int.mul_nonneg (by omega) h0
  have q := adN_nj (v := v) (show j < 7 by omega) m0
  have e0 := q 0 (by decide)
  have e1 := q 1 (by decide)
  have e2 := q 2 (by decide)
  have e3 := q 3 (by decide)
  have e4 := q 4 (by decide)
  have e5 := q 5 (by decide)
  have e6 := q 6 (by decide)
  rw [if_neg (Ne.symm h4)] at e4
  rw [if_neg (by omega)] at e6
  change adN N j v 4 = N 4 + _ at e0
  change adN N j v 6 = N 6 + _ at e1
  change adN N j v 7 = N 7 + _ at e2
  change adN N j v 3 = N 3 + _ at e3
  change adN N j v 5 = N 5 + 0 at e4
  change adN N j v 8 = N 8 + _ at e5
  change adN N j v 9 = N 9 + 0 at e6
  have ix4 := adN_ix (v := v) (show j < 7 by omega) h0 hmx hm 4 (by decide)
  refine ⟨⟨by rw [e0, a0], by rw [e1, a1], by rw [e2, a2], by rw [e3, a3], by omega, by rw [e5, a5]⟩, by omega, (adN_hd m0 2).trans a2', fun c hc => ?_⟩
  have g0 : adN N j v (86 + 6 * (c : Int) + 0) = N (86 + 6 * (c : Int) + 0) := ix4 c (by show (c : Int) < N 5; omega) 0 (by decide)
  have g1 : adN N j v (86 + 6 * (c : Int) + 1) = N (86 + 6 * (c : Int) + 1) := ix4 c (by show (c : Int) < N 5; omega) 1 (by decide)
  rw [g0, g1]
  exact ac c hc
theorem RC.ad4 {N : Int → Int} {c0 c1 c2 c3 c4 c5 : Int} (h : RC N c0 c1 c2 c3 c4 c5) {v : Int → Int} (h0 : 0 ≤ c4 ∧ c4 < 12) (hm : ∀ i, i < 7 → nj N i ≤ mxj i) (v0 : v 0 = c4 + 1) (v1 : 0 ≤ v 1 ∧ v 1 ≤ c4) : RC (adN N 4 v) c0 c1 c2 c3 (c4 + 1) c5 := by
  obtain ⟨⟨a0, a1, a2, a3, a4, a5⟩, a9, a2', ac⟩ := h
  have m0 : 0 ≤ sd 4 * nj N 4 := by show 0 ≤ 6 * N 5; omega
  have q := adN_nj (v := v) (show 4 < 7 by decide) m0
  have e0 : adN N 4 v 4 = N 4 + 0 := q 0 (by decide)
  have e1 : adN N 4 v 6 = N 6 + 0 := q 1 (by decide)
  have e2 : adN N 4 v 7 = N 7 + 0 := q 2 (by decide)
  have e3 : adN N 4 v 3 = N 3 + 0 := q 3 (by decide)
  have e4 : adN N 4 v 5 = N 5 + 1 := q 4 (by decide)
  have e5 : adN N 4 v 8 = N 8 + 0 := q 5 (by decide)
  have e6 : adN N 4 v 9 = N 9 + 0 := q 6 (by decide)
  have ix4 := adN_ix (v := v) (show 4 < 7 by decide) (show 0 ≤ N 5 by omega) (show N 5 + 1 ≤ 12 by omega) hm 4 (by decide)
  refine ⟨⟨by omega, by omega, by omega, by omega, by omega, by omega⟩, by omega, (adN_hd m0 2).trans a2', fun c hc => ?_⟩
  by_cases g : (c : Int) < c4
  · have g0 : adN N 4 v (86 + 6 * (c : Int) + 0) = N (86 + 6 * (c : Int) + 0) := ix4 c (by show (c : Int) < N 5; omega) 0 (by decide)
    have g1 : adN N 4 v (86 + 6 * (c : Int) + 1) = N (86 + 6 * (c : Int) + 1) := ix4 c (by show (c : Int) < N 5; omega) 1 (by decide)
    rw [g0, g1]
    exact ac c g
  · have ec : (c : Int) = c4 := by omega
    have g0 : adN N 4 v (86 + 6 * N 5 + 0) = v 0 := adN_v (N := N) (j := 4) m0 (by decide) (by decide)
    have g1 : adN N 4 v (86 + 6 * N 5 + 1) = v 1 := adN_v (N := N) (j := 4) m0 (by decide) (by decide)
    rw [a4] at g0 g1
    rw [ec, g0, g1]
    omega
theorem RC.up10 {N : Int → Int} {c0 c1 c2 c3 c4 c5 z : Int} (h : RC N c0 c1 c2 c3 c4 c5) (h4 : 0 ≤ c4) : RC (upN N 10 z) c0 c1 c2 c3 c4 c5 := by
  obtain ⟨⟨a0, a1, a2, a3, a4, a5⟩, a9, a2', ac⟩ := h
  refine ⟨⟨?_, ?_, ?_, ?_, ?_, ?_⟩, ?_, ?_, fun c hc => ?_⟩
  all_goals (repeat rw [upN_off (by omega)])
  all_goals first | assumption | exact ac c hc
/-- the new thing of a list -/
theorem DW.new {G : GG} {h H : Hp} {a : Nat} {N : Int → Int} {B : Bok} {S T : Nat → Prop} {b v0 : Nat} {L : List Int} {j c1 b1 e : Nat} {v : Int → Int} (D : DW G h H a (adN N j v) (adB B j c1 b1 (nj N j).toNat e) S T b v0 L) (hj : j < 7) (h0 : 0 ≤ nj N j) : (pk j, e) ∈ H.1 ∧ ∀ f : Nat, f < nf j → H.2.1 (pk j) e (f : Int) = v (og j f) := by
  have s := sd_pos j
  have m0 : 0 ≤ sd j * nj N j := Int.mul_nonneg (by omega) h0
  have q := adN_nj (v := v) hj m0 j hj
  rw [if_pos rfl] at q
  have hq : (((nj N j).toNat : Nat) : Int) < nj (adN N j v) j := by omega
  have m := D.1.mE j hq hj
  rw [bE_ad] at m
  refine ⟨m, fun f hf => ?_⟩
  have w := D.1.e j hq f hf hj
  rw [bE_ad] at w
  rw [w]
  have en : (((nj N j).toNat : Nat) : Int) = nj N j := by omega
  have g := og_b hj hf
  unfold ix
  rw [en]
  exact adN_v m0 g.1 g.2
theorem betF_at {N : Int → Int} {a b : Int} {c : Int} (hc : (N (86 + 6 * c + 0) = a ∧ N (86 + 6 * c + 1) = b) ∨ (N (86 + 6 * c + 0) = b ∧ N (86 + 6 * c + 1) = a)) : ∀ (n : Nat) (d : Int), d ≤ c → c < d + (n : Int) → (∀ e, d ≤ e → e < c → ¬ ((N (86 + 6 * e + 0) = a ∧ N (86 + 6 * e + 1) = b) ∨ (N (86 + 6 * e + 0) = b ∧ N (86 + 6 * e + 1) = a))) → betF N a b d n = c := by
  intro n
  induction n with
  | zero => intro d h1 h2 _; exfalso; omega
  | succ n ih =>
    intro d h1 h2 h3
    have e : betF N a b d (n + 1) = if (N (86 + 6 * d + 0) = a ∧ N (86 + 6 * d + 1) = b) ∨ (N (86 + 6 * d + 0) = b ∧ N (86 + 6 * d + 1) = a) then d else betF N a b (d + 1) n := rfl
    rw [e]
    by_cases z : d = c
    · rw [z, if_pos hc]
    · rw [if_neg (h3 d (Int.le_refl d) (by omega))]
      exact ih (d + 1) (by omega) (by omega) (fun e e1 e2 => h3 e (by omega) e2)
/-- the cables that are drawn lie between different packs -/
theorem RC.bet {N : Int → Int} {c0 c1 c2 c3 c4 c5 : Int} (h : RC N c0 c1 c2 c3 c4 c5) {c : Nat} (hc : (c : Int) < c4) : betN N (N (86 + 6 * (c : Int) + 0)) (N (86 + 6 * (c : Int) + 1)) = (c : Int) ∧ betN N (N (86 + 6 * (c : Int) + 1)) (N (86 + 6 * (c : Int) + 0)) = (c : Int) := by
  obtain ⟨⟨a0, a1, a2, a3, a4, a5⟩, a9, a2', ac⟩ := h
  have e := ac c hc
  have f : betN N (N (86 + 6 * (c : Int) + 0)) (N (86 + 6 * (c : Int) + 1)) = (c : Int) := by
    refine betF_at (.inl ⟨rfl, rfl⟩) _ 0 (by omega) (by omega) (fun d d0 d1 z => ?_)
    have g := ac d.toNat (by omega)
    rw [show ((d.toNat : Nat) : Int) = d by omega] at g
    omega
  exact ⟨f, bet_sym.trans f⟩
theorem RC.none {N : Int → Int} {c0 c1 c2 c3 c4 c5 : Int} (h : RC N c0 c1 c2 c3 c4 c5) {y : Int} (hy : 0 ≤ y ∧ y ≤ c4) : betN N (c4 + 1) y = -1 := by
  obtain ⟨⟨a0, a1, a2, a3, a4, a5⟩, a9, a2', ac⟩ := h
  refine bet_none (fun c c0 c1 z => ?_)
  have g := ac c.toNat (by omega)
  rw [show ((c.toNat : Nat) : Int) = c by omega] at g
  omega
theorem RC.uc {N : Int → Int} {c0 c1 c2 c3 c4 c5 : Int} (h : RC N c0 c1 c2 c3 c4 c5) (h3 : c4 < c3 ∨ c4 ≤ 0) : UC N := by
  intro c c0' c1'
  have hh := h
  obtain ⟨⟨a0, a1, a2, a3, a4, a5⟩, a9, a2', ac⟩ := hh
  obtain ⟨i, rfl⟩ : ∃ i : Nat, c = (i : Int) := ⟨c.toNat, by omega⟩
  have e := ac i (by omega)
  have f := h.bet (c := i) (by omega)
  exact ⟨by omega, by omega, f.1, f.2⟩
