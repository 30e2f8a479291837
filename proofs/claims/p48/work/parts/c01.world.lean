/-! a world of the law: at a, the row N in whole's order; B its book (lists, capacities, rows, things), S where it may be written, T where the shared curves and suns lie -/
abbrev Bok : Type := (Nat → Nat) × (Nat → Nat) × (Nat → Nat) × (Nat → Nat → Nat)
def nj (N : Int → Int) : Nat → Int
  | 0 => N 4
  | 1 => N 6
  | 2 => N 7
  | 3 => N 3
  | 4 => N 5
  | 5 => N 8
  | _ => N 9
def pk : Nat → Nat
  | 3 => 52
  | 4 => 53
  | 5 => 54
  | 6 => 55
  | _ => ak 0 4
def bs : Nat → Int
  | 0 => 14
  | 1 => 158
  | 2 => 206
  | 3 => 30
  | 4 => 86
  | 5 => 270
  | _ => 318
def sd : Nat → Int
  | 3 => 7
  | 4 => 6
  | 5 => 6
  | 6 => 7
  | _ => 4
def nf : Nat → Nat
  | 3 => 7
  | 4 => 6
  | 5 => 6
  | 6 => 7
  | _ => 4
def og3 : Nat → Int
  | 0 => 0
  | 1 => 3
  | 2 => 1
  | 3 => 2
  | 4 => 4
  | 5 => 5
  | _ => 6
def og (j f : Nat) : Int := if j = 3 then og3 f else (f : Int)
def ix (j q f : Nat) : Int := bs j + sd j * q + og j f
def mxj : Nat → Int
  | 0 => 4
  | 1 => 12
  | 2 => 16
  | 3 => 8
  | 4 => 12
  | 5 => 8
  | _ => 16
def hd : Nat → Int
  | 0 => 0
  | 1 => 1
  | 2 => 2
  | 3 => 10
  | 4 => 11
  | 5 => 12
  | _ => 13
theorem og3_b {f : Nat} (hf : f < 7) : 0 ≤ og3 f ∧ og3 f < 7 := by
  match f, hf with
  | 0, _ => decide
  | 1, _ => decide
  | 2, _ => decide
  | 3, _ => decide
  | 4, _ => decide
  | 5, _ => decide
  | 6, _ => decide
  | n + 7, h => exact absurd h (by omega)
theorem og3_inj {f f' : Nat} (hf : f < 7) (hf' : f' < 7) (e : og3 f = og3 f') : f = f' := by
  have h : ∀ f : Fin 7, ∀ f' : Fin 7, og3 f = og3 f' → f = f' := by decide
  exact congrArg Fin.val (h ⟨f, hf⟩ ⟨f', hf'⟩ e)
/-- where the places of a list's things lie -/
theorem ix_b {j q f : Nat} (hj : j < 7) (hq : (q : Int) < mxj j) (hf : f < nf j) : bs j ≤ ix j q f ∧ ix j q f < bs j + sd j * mxj j := by
  match j, hj with
  | 0, _ => simp only [mxj, nf] at hq hf; simp only [ix, bs, sd, og, mxj]; omega
  | 1, _ => simp only [mxj, nf] at hq hf; simp only [ix, bs, sd, og, mxj]; omega
  | 2, _ => simp only [mxj, nf] at hq hf; simp only [ix, bs, sd, og, mxj]; omega
  | 3, _ => simp only [mxj, nf] at hq hf; have := og3_b hf; simp only [ix, bs, sd, og, mxj]; omega
  | 4, _ => simp only [mxj, nf] at hq hf; simp only [ix, bs, sd, og, mxj]; omega
  | 5, _ => simp only [mxj, nf] at hq hf; simp only [ix, bs, sd, og, mxj]; omega
  | 6, _ => simp only [mxj, nf] at hq hf; simp only [ix, bs, sd, og, mxj]; omega
  | n + 7, h => exact absurd h (by omega)
theorem bs_apart {j j' : Nat} (hj : j < 7) (hj' : j' < 7) (hne : j ≠ j') : bs j + sd j * mxj j ≤ bs j' ∨ bs j' + sd j' * mxj j' ≤ bs j := by
  have h : ∀ j : Fin 7, ∀ j' : Fin 7, j ≠ j' → bs j + sd j * mxj j ≤ bs j' ∨ bs j' + sd j' * mxj j' ≤ bs j := by decide
  exact h ⟨j, hj⟩ ⟨j', hj'⟩ (fun e => hne (congrArg Fin.val e))
theorem ix_lo {j q f : Nat} (hj : j < 7) (hq : (q : Int) < mxj j) (hf : f < nf j) : 14 ≤ ix j q f ∧ ix j q f < 430 := by
  have b := ix_b hj hq hf
  have h : ∀ j : Fin 7, 14 ≤ bs j ∧ bs j + sd j * mxj j ≤ 430 := by decide
  have hh : 14 ≤ bs j ∧ bs j + sd j * mxj j ≤ 430 := h ⟨j, hj⟩
  omega
theorem ix_inj {j q f j' q' f' : Nat} (hj : j < 7) (hj' : j' < 7) (hq : (q : Int) < mxj j) (hq' : (q' : Int) < mxj j') (hf : f < nf j) (hf' : f' < nf j') (e : ix j q f = ix j' q' f') : j = j' ∧ q = q' ∧ f = f' := by
  by_cases hne : j = j'
  · subst hne
    refine ⟨rfl, ?_⟩
    match j, hj with
    | 0, _ => simp only [nf] at hf hf'; simp only [ix, bs, sd, og] at e; omega
    | 1, _ => simp only [nf] at hf hf'; simp only [ix, bs, sd, og] at e; omega
    | 2, _ => simp only [nf] at hf hf'; simp only [ix, bs, sd, og] at e; omega
    | 3, _ =>
      simp only [nf] at hf hf'
      have a := og3_b hf
      have b := og3_b hf'
      simp only [ix, bs, sd, og, if_true] at e
      have c : q = q' := by omega
      exact ⟨c, og3_inj hf hf' (by omega)⟩
    | 4, _ => simp only [nf] at hf hf'; simp only [ix, bs, sd, og] at e; omega
    | 5, _ => simp only [nf] at hf hf'; simp only [ix, bs, sd, og] at e; omega
    | 6, _ => simp only [nf] at hf hf'; simp only [ix, bs, sd, og] at e; omega
    | n + 7, h => exact absurd h (by omega)
  · have b := ix_b hj hq hf
    have b' := ix_b hj' hq' hf'
    have := bs_apart hj hj' hne
    omega
theorem hd_b {f : Nat} : 0 ≤ hd f ∧ hd f < 14 ∧ (hd f < 3 ∨ 10 ≤ hd f) := by
  unfold hd
  split <;> decide
theorem hd_inj {f f' : Nat} (hf : f < 7) (hf' : f' < 7) (e : hd f = hd f') : f = f' := by
  have h : ∀ f : Fin 7, ∀ f' : Fin 7, hd f = hd f' → f = f' := by decide
  exact congrArg Fin.val (h ⟨f, hf⟩ ⟨f', hf'⟩ e)
theorem pk_ge (j : Nat) : 51 ≤ pk j := by unfold pk; split <;> decide
theorem pk_n51 (j : Nat) : pk j ≠ 51 := by unfold pk; split <;> decide
theorem pk_n56 (j : Nat) : pk j ≠ 56 := by unfold pk; split <;> decide
theorem pk_n57 (j : Nat) : pk j ≠ 57 := by unfold pk; split <;> decide
theorem pk_n7 (j c : Nat) : pk j ≠ ak 7 c := by unfold pk ak; split <;> omega
theorem pk_inj {j j' : Nat} (hj : j < 7) (hj' : j' < 7) (e : pk j = pk j') : j = j' ∨ j < 3 ∧ j' < 3 := by
  have h : ∀ j : Fin 7, ∀ j' : Fin 7, pk j = pk j' → j = j' ∨ j.val < 3 ∧ j'.val < 3 := by decide
  rcases h ⟨j, hj⟩ ⟨j', hj'⟩ e with h | h
  · exact .inl (congrArg Fin.val h)
  · exact .inr h
theorem pk_isE (j : Nat) : isE (pk j) := by
  unfold pk
  split
  · exact .inl ⟨15, _, _, rfl, rfl, by decide +kernel⟩
  · exact .inl ⟨12, _, _, rfl, rfl, by decide +kernel⟩
  · exact .inl ⟨13, _, _, rfl, rfl, by decide +kernel⟩
  · exact .inl ⟨14, _, _, rfl, rfl, by decide +kernel⟩
  · exact .inr ⟨4, rfl⟩
theorem nj_upN {N : Int → Int} {i z : Int} (j : Nat) (hi : i < 3 ∨ 10 ≤ i) : nj (upN N i z) j = nj N j := by
  unfold nj
  split <;> exact upN_off (by omega)
def bE (B : Bok) (j q : Nat) : Nat := B.2.2.2 j q
def WN (G : GG) (h : Hp) (a : Nat) (N : Int → Int) (B : Bok) (S T : Nat → Prop) : Prop :=
  (51, a) ∈ h.1 ∧ (∀ f : Nat, f < 7 → h.2.1 51 a (f : Int) = N (hd f)) ∧ (∀ j, j < 7 → h.2.2.1 51 a (7 + j) = some (56, B.1 j)) ∧
  (∀ j, j < 7 → (0 ≤ nj N j ∧ nj N j ≤ mxj j) ∧ LA G h (B.1 j) (B.2.1 j) (B.2.2.1 j) (nj N j).toNat (fun q => (pk j, bE B j q))) ∧
  (∀ j, j < 7 → ∀ q : Nat, (q : Int) < nj N j → ∀ f : Nat, f < nf j → h.2.1 (pk j) (bE B j q) (f : Int) = N (ix j q f)) ∧
  (S a ∧ (∀ j, j < 7 → S (B.1 j) ∧ (0 < B.2.1 j → S (B.2.2.1 j))) ∧ (∀ j, 2 ≤ j → j < 7 → ∀ q : Nat, (q : Int) < nj N j → S (bE B j q)) ∧ (∀ j, j < 2 → ∀ q : Nat, (q : Int) < nj N j → T (bE B j q)) ∧ ∀ i, S i → ¬ T i ∧ ∃ k, 51 ≤ k ∧ (k, i) ∈ h.1) ∧
  (∀ j j', j < 7 → j' < 7 → B.1 j = B.1 j' → j = j') ∧ (∀ j j', j < 7 → j' < 7 → 0 < B.2.1 j → 0 < B.2.1 j' → B.2.2.1 j = B.2.2.1 j' → j = j') ∧ ∀ j, 2 ≤ j → j < 7 → ∀ q q' : Nat, (q : Int) < nj N j → (q' : Int) < nj N j → bE B j q = bE B j q' → q = q'
section WNs
variable {G : GG} {h h1 : Hp} {a : Nat} {N N' : Int → Int} {B : Bok} {S T S' : Nat → Prop}
theorem WN.mW (hW : WN G h a N B S T) : (51, a) ∈ h.1 := hW.1
theorem WN.l (hW : WN G h a N B S T) (j : Nat) (hj : j < 7 := by decide) : LA G h (B.1 j) (B.2.1 j) (B.2.2.1 j) (nj N j).toNat (fun q => (pk j, bE B j q)) := (hW.2.2.2.1 j hj).2
theorem WN.nb (hW : WN G h a N B S T) (j : Nat) (hj : j < 7 := by decide) : 0 ≤ nj N j ∧ nj N j ≤ mxj j := (hW.2.2.2.1 j hj).1
theorem WN.mE (hW : WN G h a N B S T) (j : Nat) {q : Nat} (hq : (q : Int) < nj N j) (hj : j < 7 := by decide) : (pk j, bE B j q) ∈ h.1 := ((hW.l j hj).2.2.2.2.2.2.2.1 q (by omega)).2.2
theorem WN.e (hW : WN G h a N B S T) (j : Nat) {q : Nat} (hq : (q : Int) < nj N j) (f : Nat) (hf : f < nf j := by decide) (hj : j < 7 := by decide) : h.2.1 (pk j) (bE B j q) (f : Int) = N (ix j q f) := hW.2.2.2.2.1 j hj q hq f hf
theorem WN.sE (hW : WN G h a N B S T) (j : Nat) {q : Nat} (hq : (q : Int) < nj N j) (h2 : 2 ≤ j := by decide) (hj : j < 7 := by decide) : S (bE B j q) := hW.2.2.2.2.2.1.2.2.1 j h2 hj q hq
theorem WN.wf (hW : WN G h a N B S T) (f : Nat) (hf : f < 7 := by decide) : h.2.1 51 a (f : Int) = N (hd f) := hW.2.1 f hf
theorem WN.r (hW : WN G h a N B S T) (j : Nat) (hj : j < 7 := by decide) : h.2.2.1 51 a (7 + j) = some (56, B.1 j) := hW.2.2.1 j hj
theorem LA.hset {l c b n k i : Nat} {j z : Int} {E : Nat → Nat × Nat} (hA : LA G h l c b n E) (hk : k ≠ 56) : LA G (hset h k i j z) l c b n E := by
  obtain ⟨a1, a2, a3, a4, a5, a6, a7, a8, a9⟩ := hA
  exact ⟨a1, a2, by rw [hset_off (by omega)]; exact a3, a4, a5, a6, a7, a8, a9⟩
/-- a thing's number changed -/
theorem WN.setE (hW : WN G h a N B S T) (j : Nat) {q : Nat} (hq : (q : Int) < nj N j) (f : Nat) (z : Int) (hf : f < nf j := by decide) (h2 : 2 ≤ j := by decide) (hj : j < 7 := by decide) : WN G (hset h (pk j) (bE B j q) (f : Int) z) a (upN N (ix j q f) z) B S T := by
  have hb := hW.nb j hj
  have hi := ix_lo (q := q) hj (by omega) hf
  have en : ∀ j', nj (upN N (ix j q f) z) j' = nj N j' := fun j' => nj_upN j' (by omega)
  obtain ⟨w1, w2, w3, w4, w5, ⟨s1, s2, s3, s4, s5⟩, w7, w8, w9⟩ := hW
  refine ⟨w1, fun f' hf' => ?_, w3, fun j' hj' => ?_, fun j' hj' q' hq' f' hf' => ?_, ⟨s1, s2, fun j' a1 a2 q' hq' => s3 j' a1 a2 q' (by rw [← en]; exact hq'), fun j' a1 q' hq' => s4 j' a1 q' (by rw [← en]; exact hq'), s5⟩, w7, w8, fun j' a1 a2 q1 q2 h1 h2 => w9 j' a1 a2 q1 q2 (by rw [← en]; exact h1) (by rw [← en]; exact h2)⟩
  · rw [hset_off (fun e => pk_n51 j e.1.symm), upN_off (by have := hd_b (f := f'); omega)]
    exact w2 f' hf'
  · rw [en]
    exact ⟨(w4 j' hj').1, (w4 j' hj').2.hset (pk_n56 j)⟩
  · rw [en] at hq'
    have hb' := (w4 j' hj').1
    by_cases e : j' = j ∧ q' = q ∧ f' = f
    · obtain ⟨rfl, rfl, rfl⟩ := e
      rw [hset_at, upN_at]
    · rw [hset_off (fun c => e ?_), upN_off (fun c => e ?_)]
      · exact w5 j' hj' q' hq' f' hf'
      · exact ix_inj hj' hj (by omega) (by omega) hf' hf c
      · obtain ⟨c1, c2, c3⟩ := c
        have c3' : f' = f := by omega
        rcases pk_inj hj' hj c1 with rfl | ⟨c4, c5⟩
        · exact ⟨rfl, w9 j' h2 hj q' q hq' hq c2, c3'⟩
        · have hj2 : j = 2 := by omega
          subst hj2
          by_cases z2 : j' = 2
          · subst z2
            exact ⟨rfl, w9 2 (by omega) hj q' q hq' hq c2, c3'⟩
          · exact absurd (s4 j' (by omega) q' hq') (by rw [c2]; exact (s5 _ (s3 2 h2 hj q hq)).1)
/-- a number of the world itself changed -/
theorem WN.setH (hW : WN G h a N B S T) (f : Nat) (z : Int) (hf : f < 7 := by decide) : WN G (hset h 51 a (f : Int) z) a (upN N (hd f) z) B S T := by
  have hh := hd_b (f := f)
  have en : ∀ j', nj (upN N (hd f) z) j' = nj N j' := fun j' => nj_upN j' (by omega)
  obtain ⟨w1, w2, w3, w4, w5, ⟨s1, s2, s3, s4, s5⟩, w7, w8, w9⟩ := hW
  refine ⟨w1, fun f' hf' => ?_, w3, fun j' hj' => ?_, fun j' hj' q' hq' f' hf' => ?_, ⟨s1, s2, fun j' a1 a2 q' hq' => s3 j' a1 a2 q' (by rw [← en]; exact hq'), fun j' a1 q' hq' => s4 j' a1 q' (by rw [← en]; exact hq'), s5⟩, w7, w8, fun j' a1 a2 q1 q2 h1 h2 => w9 j' a1 a2 q1 q2 (by rw [← en]; exact h1) (by rw [← en]; exact h2)⟩
  · by_cases e : f' = f
    · subst e
      rw [hset_at, upN_at]
    · rw [hset_off (fun c => e (by omega)), upN_off (fun c => e (hd_inj hf' hf c))]
      exact w2 f' hf'
  · rw [en]
    exact ⟨(w4 j' hj').1, (w4 j' hj').2.hset (by decide)⟩
  · rw [en] at hq'
    have hb' := (w4 j' hj').1
    have hi := ix_lo (q := q') hj' (by omega) hf'
    rw [hset_off (fun c => pk_n51 j' c.1), upN_off (by omega)]
    exact w5 j' hj' q' hq' f' hf'
theorem nj_congr (hN : ∀ j, 0 ≤ j → j < 430 → N' j = N j) (j : Nat) : nj N' j = nj N j := by
  unfold nj
  split <;> exact hN _ (by decide) (by decide)
theorem WN.cg (hW : WN G h a N B S T) (hN : ∀ j, 0 ≤ j → j < 430 → N' j = N j) : WN G h a N' B S T := by
  have en := nj_congr hN
  obtain ⟨w1, w2, w3, w4, w5, ⟨s1, s2, s3, s4, s5⟩, w7, w8, w9⟩ := hW
  refine ⟨w1, fun f' hf' => ?_, w3, fun j' hj' => by rw [en]; exact w4 j' hj', fun j' hj' q' hq' f' hf' => ?_, ⟨s1, s2, fun j' a1 a2 q' hq' => s3 j' a1 a2 q' (by rw [← en]; exact hq'), fun j' a1 q' hq' => s4 j' a1 q' (by rw [← en]; exact hq'), s5⟩, w7, w8, fun j' a1 a2 q1 q2 h1 h2 => w9 j' a1 a2 q1 q2 (by rw [← en]; exact h1) (by rw [← en]; exact h2)⟩
  · have := hd_b (f := f')
    rw [hN _ (by omega) (by omega)]
    exact w2 f' hf'
  · rw [en] at hq'
    have hb' := (w4 j' hj').1
    have hi := ix_lo (q := q') hj' (by omega) hf'
    rw [hN _ (by omega) (by omega)]
    exact w5 j' hj' q' hq' f' hf'
/-- what a piece of the walk leaves alone -/
theorem WN.fr (hW : WN G h a N B S T) (hF : Fr S' h h1) (hS : ∀ i, S' i → ¬ S i ∧ ¬ T i) : WN G h1 a N B S T := by
  obtain ⟨w1, w2, w3, w4, w5, ⟨s1, s2, s3, s4, s5⟩, w7, w8, w9⟩ := hW
  have e1 := hF.2.2.1 51 a (by decide) w1 (fun z => (hS _ z).1 s1)
  refine ⟨hF.1 _ w1, fun f' hf' => by rw [e1.1]; exact w2 f' hf', fun j hj => by rw [e1.2]; exact w3 j hj, fun j hj => ⟨(w4 j hj).1, (w4 j hj).2.fr hF (fun z => (hS _ z).1 (s2 j hj).1) (fun c z => (hS _ z).1 ((s2 j hj).2 c))⟩, fun j hj q hq f hf => ?_, ⟨s1, s2, s3, s4, fun i hi => ⟨(s5 i hi).1, by obtain ⟨k, k1, k2⟩ := (s5 i hi).2; exact ⟨k, k1, hF.1 _ k2⟩⟩⟩, w7, w8, w9⟩
  have hm : (pk j, bE B j q) ∈ h.1 := ((w4 j hj).2.2.2.2.2.2.2.2.1 q (by have := (w4 j hj).1; omega)).2.2
  have hn : ¬ S' (bE B j q) := by
    intro z
    by_cases c : j < 2
    · exact (hS _ z).2 (s4 j c q hq)
    · exact (hS _ z).1 (s3 j (by omega) hj q hq)
  rw [(hF.2.2.1 (pk j) _ (pk_ge j) hm hn).1]
  exact w5 j hj q hq f hf
theorem WN.fr0 (hW : WN G h a N B S T) (hF : Fr (fun _ => False) h h1) : WN G h1 a N B S T := hW.fr hF (fun _ z => z.elim)
end WNs
