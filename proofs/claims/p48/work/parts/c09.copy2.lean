/-! World.copy -/
theorem WN.eqN {G : GG} {h : Hp} {a : Nat} {N N' : Int → Int} {B : Bok} {S T : Nat → Prop} (hW : WN G h a N B S T) (e0 : ∀ f, f < 7 → N' (hd f) = N (hd f)) (ej : ∀ j, j < 7 → nj N' j = nj N j) (ee : ∀ j, j < 7 → ∀ q : Nat, (q : Int) < nj N j → ∀ f, f < nf j → N' (ix j q f) = N (ix j q f)) : WN G h a N' B S T := by
  obtain ⟨w1, w2, w3, w4, w5, ⟨s1, s2, s3, s4, s5⟩, w7, w8, w9⟩ := hW
  refine ⟨w1, fun f hf => by rw [e0 f hf]; exact w2 f hf, w3, fun j hj => by rw [ej j hj]; exact w4 j hj, fun j hj q hq f hf => ?_, ⟨s1, s2, fun j h2 hj q hq => s3 j h2 hj q (by rw [← ej j hj]; exact hq), fun j h2 q hq => s4 j h2 q (by rw [← ej j (by omega)]; exact hq), s5⟩, w7, w8, fun j h2 hj q q' hq hq' => w9 j h2 hj q q' (by rw [← ej j hj]; exact hq) (by rw [← ej j hj]; exact hq')⟩
  rw [ej j hj] at hq
  rw [ee j hj q hq f hf]
  exact w5 j hj q hq f hf
theorem WN.mono {G : GG} {h : Hp} {a : Nat} {N : Int → Int} {B : Bok} {S T S' T' : Nat → Prop} (hW : WN G h a N B S T) (hS : ∀ i, S i → S' i) (hT : ∀ i, T i → T' i) (hd : ∀ i, S' i → ¬ T' i ∧ ∃ k, 51 ≤ k ∧ (k, i) ∈ h.1) : WN G h a N B S' T' := by
  obtain ⟨w1, w2, w3, w4, w5, ⟨s1, s2, s3, s4, s5⟩, w7, w8, w9⟩ := hW
  exact ⟨w1, w2, w3, w4, w5, ⟨hS _ s1, fun j hj => ⟨hS _ (s2 j hj).1, fun c => hS _ ((s2 j hj).2 c)⟩, fun j h2 hj q hq => hS _ (s3 j h2 hj q hq), fun j h2 q hq => hT _ (s4 j h2 q hq), hd⟩, w7, w8, w9⟩
/-- a list without things gets things that lie there, by one call -/
theorem WN.all {G : GG} {h h1 : Hp} {a : Nat} {N N' : Int → Int} {B : Bok} {S T S' : Nat → Prop} (hW : WN G h a N B S T) (hu : UQ h1) (j : Nat) (hj : j < 2) (hz : nj N j = 0) {c1 b1 n2 : Nat} {x : Nat → Nat}
    (hA : LA G h1 (B.1 j) c1 b1 n2 (fun q => (pk j, x q))) (hF : Fr (fun i => i = B.1 j) h h1) (hb : c1 = 0 ∨ fre h b1) (hx : ∀ q, q < n2 → (pk j, x q) ∈ h.1 ∧ T (x q)) (hS1 : ∀ i, S i → S' i) (hS2 : 0 < c1 → S' b1) (hST : ∀ i, S' i → ¬ T i ∧ ∃ k, 51 ≤ k ∧ (k, i) ∈ h1.1)
    (hN0 : ∀ f, f < 7 → N' (hd f) = N (hd f)) (hNj : ∀ i, i < 7 → nj N' i = if i = j then (n2 : Int) else nj N i) (hmx : (n2 : Int) ≤ mxj j) (hNe : ∀ i, i < 7 → ∀ q : Nat, (q : Int) < nj N i → ∀ f, f < nf i → N' (ix i q f) = N (ix i q f)) (hNn : ∀ q, q < n2 → ∀ f : Nat, f < nf j → h.2.1 (pk j) (x q) (f : Int) = N' (ix j q f)) :
    WN G h1 a N' (B.1, (fun i => if i = j then c1 else B.2.1 i), (fun i => if i = j then b1 else B.2.2.1 i), fun i q => if i = j then x q else B.2.2.2 i q) S' T := by
  have u0 := hu.fr hF
  obtain ⟨w1, w2, w3, w4, w5, ⟨s1, s2, s3, s4, s5⟩, w7, w8, w9⟩ := hW
  have l56 : ∀ i, i < 7 → (56, B.1 i) ∈ h.1 := fun i hi => (w4 i hi).2.1
  have l7 : ∀ i, i < 7 → 0 < B.2.1 i → (ak 7 (B.2.1 i), B.2.2.1 i) ∈ h.1 := fun i hi => (w4 i hi).2.2.2.2.2.2.1
  have st : ∀ k i, 51 ≤ k → k ≠ 56 → (k, i) ∈ h.1 → h1.2.1 k i = h.2.1 k i ∧ h1.2.2.1 k i = h.2.2.1 k i := fun k i hk h56 hm => hF.2.2.1 k i hk hm (fun z => h56 (u0 k 56 i hk (by decide) hm (by rw [z]; exact l56 j (by omega))))
  have sa := st 51 a (by decide) (by decide) w1
  have se : ∀ i, i < 7 → ∀ q : Nat, (q : Int) < nj N i → h1.2.1 (pk i) (bE B i q) = h.2.1 (pk i) (bE B i q) := fun i hi q hq => (st _ _ (pk_ge i) (pk_n56 i) (((w4 i hi).2.2.2.2.2.2.2.2.1 q (by have := (w4 i hi).1; omega)).2.2)).1
  have lt : ∀ i, i < 7 → ∀ q : Nat, (q : Int) < nj N' i → i ≠ j ∧ (q : Int) < nj N i ∨ i = j ∧ q < n2 := fun i hi q hq => by
    rw [hNj i hi] at hq
    by_cases c : i = j
    · rw [if_pos c] at hq
      exact .inr ⟨c, by omega⟩
    · rw [if_neg c] at hq
      exact .inl ⟨c, hq⟩
  refine ⟨hF.1 _ w1, fun f hf => by rw [sa.1, hN0 f hf]; exact w2 f hf, fun i hi => by rw [sa.2]; exact w3 i hi, fun i hi => ?_, fun i hi q hq f hf => ?_, ⟨hS1 _ s1, fun i hi => ⟨hS1 _ (s2 i hi).1, fun c => ?_⟩, fun i h2 hi q hq => ?_, fun i h2 q hq => ?_, hST⟩, w7, fun i i' hi hi' c c' ee => ?_, fun i h2 hi q q' hq hq' ee => ?_⟩
  · rw [hNj i hi]
    by_cases c : i = j
    · subst c
      rw [if_pos rfl]
      refine ⟨⟨by omega, hmx⟩, ?_⟩
      show LA G h1 (B.1 i) (if i = i then c1 else B.2.1 i) (if i = i then b1 else B.2.2.1 i) (n2 : Int).toNat _
      rw [if_pos rfl, if_pos rfl, Int.toNat_natCast]
      refine hA.E (fun q hq => ?_)
      show (pk i, if i = i then x q else B.2.2.2 i q) = _
      rw [if_pos rfl]
    · rw [if_neg c]
      refine ⟨(w4 i hi).1, ?_⟩
      show LA G h1 (B.1 i) (if i = j then c1 else B.2.1 i) (if i = j then b1 else B.2.2.1 i) _ _
      rw [if_neg c, if_neg c]
      refine LA.E ((w4 i hi).2.fr hF (fun z => c (w7 i j hi (by omega) z)) (fun d z => ?_)) (fun q hq => ?_)
      · have := u0 56 _ _ (by decide) ak_ge (l56 j (by omega)) (by rw [← z]; exact l7 i hi d)
        unfold ak at this
        omega
      · show (pk i, if i = j then x q else B.2.2.2 i q) = _
        rw [if_neg c]
        rfl
  · show h1.2.1 (pk i) (if i = j then x q else B.2.2.2 i q) (f : Int) = _
    rcases lt i hi q hq with ⟨c, l1⟩ | ⟨c, l1⟩
    · rw [if_neg c]
      exact (congrFun (se i hi q l1) _).trans ((w5 i hi q l1 f hf).trans (hNe i hi q l1 f hf).symm)
    · subst c
      rw [if_pos rfl, (st _ _ (pk_ge i) (pk_n56 i) (hx q l1).1).1]
      exact hNn q l1 f hf
  · have c' : 0 < (if i = j then c1 else B.2.1 i) := c
    show S' (if i = j then b1 else B.2.2.1 i)
    by_cases d : i = j
    · rw [if_pos d] at c' ⊢
      exact hS2 c'
    · rw [if_neg d] at c' ⊢
      exact hS1 _ ((s2 i hi).2 c')
  · show S' (if i = j then x q else B.2.2.2 i q)
    rcases lt i hi q hq with ⟨c, l1⟩ | ⟨c, l1⟩
    · rw [if_neg c]
      exact hS1 _ (s3 i h2 hi q l1)
    · omega
  · show T (if i = j then x q else B.2.2.2 i q)
    rcases lt i (by omega) q hq with ⟨c, l1⟩ | ⟨c, l1⟩
    · rw [if_neg c]
      exact s4 i h2 q l1
    · rw [if_pos c]
      exact (hx q l1).2
  · have c2 : 0 < (if i = j then c1 else B.2.1 i) := c
    have c3 : 0 < (if i' = j then c1 else B.2.1 i') := c'
    have e2 : (if i = j then b1 else B.2.2.1 i) = (if i' = j then b1 else B.2.2.1 i') := ee
    have no : 0 < c1 → ∀ y, y < 7 → 0 < B.2.1 y → b1 ≠ B.2.2.1 y := fun hc1 y hy hc z => by
      rcases hb with z1 | z1
      · omega
      · exact z1 _ ak_ge (by rw [z]; exact l7 y hy hc)
    by_cases d : i = j
    · by_cases d' : i' = j
      · rw [d, d']
      · rw [if_pos d] at c2 e2
        rw [if_neg d'] at c3 e2
        exact absurd e2 (no c2 i' hi' c3)
    · by_cases d' : i' = j
      · rw [if_neg d] at c2 e2
        rw [if_pos d'] at c3 e2
        exact absurd e2.symm (no c3 i hi c2)
      · rw [if_neg d] at c2 e2
        rw [if_neg d'] at c3 e2
        exact w8 i i' hi hi' c2 c3 e2
  · have e2 : (if i = j then x q else B.2.2.2 i q) = (if i = j then x q' else B.2.2.2 i q') := ee
    rw [if_neg (by omega), if_neg (by omega)] at e2
    rcases lt i hi q hq with ⟨c, l1⟩ | ⟨c, l1⟩
    · rcases lt i hi q' hq' with ⟨c', l2⟩ | ⟨c', l2⟩
      · exact w9 i h2 hi q q' l1 l2 e2
      · omega
    · omega
def cnt (N : Int → Int) (k : Nat → Int) : Int → Int := fun i => if i = 4 then k 0 else if i = 6 then k 1 else if i = 7 then k 2 else if i = 3 then k 3 else if i = 5 then k 4 else if i = 8 then k 5 else if i = 9 then k 6 else N i
theorem cnt_j {N : Int → Int} {k : Nat → Int} (j : Nat) (hj : j < 7) : nj (cnt N k) j = k j := by
  match j, hj with
  | 0, _ => rfl
  | 1, _ => rfl
  | 2, _ => rfl
  | 3, _ => rfl
  | 4, _ => rfl
  | 5, _ => rfl
  | 6, _ => rfl
  | n + 7, h => exact absurd h (by omega)
theorem cnt_o {N : Int → Int} {k : Nat → Int} {i : Int} (h : i < 3 ∨ 10 ≤ i) : cnt N k i = N i := by
  unfold cnt
  rw [if_neg (by omega), if_neg (by omega), if_neg (by omega), if_neg (by omega), if_neg (by omega), if_neg (by omega), if_neg (by omega)]
def kc (N : Int → Int) (j : Nat) (cur : Int) : Nat → Int := fun i => if i < j then nj N i else if i = j then cur else 0
theorem kc_next {N : Int → Int} {j : Nat} {cur : Int} (e : cur = nj N j) : kc N j cur = kc N (j + 1) 0 := by
  funext i
  unfold kc
  by_cases c : i < j
  · rw [if_pos c, if_pos (by omega)]
  · rw [if_neg c]
    by_cases d : i = j
    · rw [if_pos d, if_pos (by omega), e, d]
    · rw [if_neg d, if_neg (by omega)]
      split <;> rfl
theorem WN.full {G : GG} {h : Hp} {a : Nat} {N : Int → Int} {B : Bok} {S T : Nat → Prop} {k : Nat → Int} (hW : WN G h a (cnt N k) B S T) (hk : ∀ i, i < 7 → k i = nj N i) : WN G h a N B S T :=
  hW.eqN (fun f _ => (cnt_o (by have := hd_b (f := f); omega)).symm) (fun j hj => by rw [cnt_j j hj, hk j hj]) (fun j hj q hq f hf => (cnt_o (by have := ix_lo (q := q) hj (by have := (hW.nb j hj); omega) hf; omega)).symm)
theorem snew_mono {S0 : Nat → Prop} {h H H1 : Hp} (F : Fr S0 H H1) {i : Nat} (hs : snew h H i) : snew h H1 i := by
  obtain ⟨a, k, b, c⟩ := hs
  exact ⟨a, k, b, F.1 _ c⟩
theorem WN.grow {G : GG} {h H H1 : Hp} {S0 : Nat → Prop} {w : Nat} {N : Int → Int} {B : Bok} {T : Nat → Prop} (hW : WN G H1 w N B (snew h H) T) (F : Fr S0 H H1) (hT : ∀ i, T i → ¬ fre h i) : WN G H1 w N B (snew h H1) T :=
  hW.mono (fun _ => snew_mono F) (fun _ z => z) (fun i hi => ⟨fun z => hT i z hi.1, hi.2⟩)
theorem WN.reS {G : GG} {h H H' : Hp} {w : Nat} {N : Int → Int} {B : Bok} {T : Nat → Prop} (hW : WN G H' w N B (snew h H) T) (e : H'.1 = H.1) : WN G H' w N B (snew h H') T := by
  have e2 : snew h H = snew h H' := by
    funext i
    unfold snew
    rw [e]
  rw [← e2]
  exact hW
theorem WN.lc {G : GG} {h : Hp} {a : Nat} {N : Int → Int} {B : Bok} {S T : Nat → Prop} {k : Nat → Int} (hW : WN G h a (cnt N k) B S T) {j cur : Nat} (hj : j < 7) (hk : k j = (cur : Int)) : LA G h (B.1 j) (B.2.1 j) (B.2.2.1 j) cur (fun q => (pk j, bE B j q)) := by
  have e := hW.l j hj
  rw [cnt_j j hj, hk, Int.toNat_natCast] at e
  exact e
theorem kc_at {N : Int → Int} {j : Nat} {cur : Int} : kc N j cur j = cur := by unfold kc; rw [if_neg (Nat.lt_irrefl j), if_pos rfl]
/-- a copy of a thing added -/
theorem WN.cpAdd {G : GG} {h H' H1 H2 : Hp} {w : Nat} {N : Int → Int} {B2 : Bok} {T : Nat → Prop} {j cur e c1 b1 : Nat} (hW : WN G H1 w (cnt N (kc N j (cur : Int))) B2 (snew h H') T) (hT : ∀ i, T i → ¬ fre h i) (F0 : Fr (fun _ => False) h H') (F1 : Fr (fun _ => False) H' H1) (hu : UQ H2) (hj : 2 ≤ j ∧ j < 7) (hcur : (cur : Int) < nj N j) (hmx : nj N j ≤ mxj j)
    (hA : LA G H2 (B2.1 j) c1 b1 (cur + 1) (adE (fun q => (pk j, bE B2 j q)) cur (pk j, e))) (hF : Fr (fun i => i = B2.1 j ∨ 0 < B2.2.1 j ∧ i = B2.2.2.1 j) H1 H2) (hb : b1 = B2.2.2.1 j ∧ c1 = B2.2.1 j ∧ 0 < B2.2.1 j ∨ fre H1 b1 ∧ 0 < c1)
    (hme : (pk j, e) ∈ H1.1) (fe : fre H' e) (hv : ∀ f : Nat, f < nf j → H1.2.1 (pk j) e (f : Int) = N (ix j cur f)) {l : Nat} (hl : (56, l) ∈ h.1) :
    WN G H2 w (cnt N (kc N j ((cur + 1 : Nat) : Int))) (adB B2 j c1 b1 cur e) (snew h H2) T ∧ Fr (fun _ => False) h H2 ∧ ∀ it x, IT H1 it l x → IT H2 it l x := by
  have ec : (nj (cnt N (kc N j (cur : Int))) j).toNat = cur := by rw [cnt_j j hj.2, kc_at, Int.toNat_natCast]
  have sl := (hW.2.2.2.2.2.1.2.1 j hj.2)
  have FF := F0.t F1
  have nS : ∀ i, i = B2.1 j ∨ 0 < B2.2.1 j ∧ i = B2.2.2.1 j → fre h i := fun i z => by
    rcases z with z | ⟨z1, z2⟩
    · rw [z]; exact sl.1.1
    · rw [z2]; exact (sl.2 z1).1
  have FH : Fr (fun _ => False) h H2 := FF.tr hF (fun i z => .inr (nS i z))
  refine ⟨?_, FH, fun it x hI => ?_⟩
  · have k := WN.add (N' := cnt N (kc N j ((cur + 1 : Nat) : Int))) (S' := snew h H2) (T' := T) (c1 := c1) (b1 := b1) (e := e) hW hu j hj.2 (by rw [ec]; exact hA) hF hb hme (fun _ z => by obtain ⟨z1, k, z2, z3⟩ := z; exact fe k z2 z3) (fun i z => snew_mono hF (snew_mono F1 z)) ?_ (fun _ => ⟨Fr_fre F0 fe, pk j, pk_ge j, hF.1 _ hme⟩) (fun _ z => z) (fun z => by omega) (fun i hi => ⟨fun z => hT i z hi.1, hi.2⟩) (fun f hf => by rw [cnt_o (by have := hd_b (f := f); omega), cnt_o (by have := hd_b (f := f); omega)]) (fun i hi => ?_) (by rw [cnt_j j hj.2, kc_at]; omega) (fun i hi q hq f hf => ?_) (fun f hf => ?_)
    · rw [ec] at k
      exact k
    · rcases hb with ⟨z1, z2, z3⟩ | ⟨z1, z2⟩
      · rw [z1]; exact snew_mono hF (snew_mono F1 (sl.2 z3))
      · exact ⟨Fr_fre FF z1, ak 7 c1, ak_ge, hA.2.2.2.2.2.1 z2⟩
    · rw [cnt_j i hi, cnt_j i hi]
      unfold kc
      by_cases c : i < j
      · rw [if_pos c, if_pos c, if_neg (by omega), Int.add_zero]
      · rw [if_neg c, if_neg c]
        by_cases d : i = j
        · rw [if_pos d, if_pos d, if_pos d]; rfl
        · rw [if_neg d, if_neg d, if_neg d]; rfl
    · have b := ix_lo (q := q) hi (by have := (hW.nb i hi); omega) hf
      rw [cnt_o (by omega), cnt_o (by omega)]
    · rw [ec, hv f hf]
      have b := ix_lo (j := j) (q := cur) (f := f) hj.2 (by omega) hf
      rw [cnt_o (by omega)]
  · have hI1 := hI.1
    refine hI.fr hF (FF.1 _ hl) (fun z => nS l z 56 (by decide) hl) (fun z => ?_)
    rcases z with z | ⟨z1, z2⟩
    · have := hu 57 56 it (by decide) (by decide) (hF.1 _ hI1) (by rw [z]; exact hA.1)
      omega
    · have := (hu.fr hF) 57 _ it (by decide) ak_ge hI1 (by rw [z2]; exact (hW.l j hj.2).2.2.2.2.2.1 z1)
      unfold ak at this
      omega
theorem cp_301 {G : GG} {h : Hp} {a : Nat} {N : Int → Int} {B : Bok} {S T : Nat → Prop} (hW : WN G h a N B S T) (hT : ∀ i, T i → ¬ fre h i) {w : Nat} {H : Hp} {B2 : Bok} {c0 s0 : Nat} (hF : Fr (fun _ => False) h H) (hW2 : WN G H w (cnt N (kc N 7 0)) B2 (snew h H) T) (hcs : c0 ≤ 740) (hss : s0 ≤ 14000) : YY G MX12_copy (rmL 9 740 14000) 301 [(0, rf G 51 a), (1, rf G 51 w)] [] H c0 s0 (fun v h1 => ∃ B2, v = some (rf G 51 w) ∧ WN G h1 w N B2 (snew h h1) T ∧ Fr (fun _ => False) h h1) := by
  refine o_aload_n (pc := 301) dX12_copy_301 1 rfl ?_
  exact o_aret (pc := 302) dX12_copy_302 rfl (.inl ⟨_, rfl⟩) (.inr ⟨_, rfl⟩) (by simp only [rmL]; omega) (by simp only [rmL]; omega) ⟨B2, rfl, hW2.full (fun i hi => if_pos hi), hF⟩
theorem lp_cp6 {G : GG} {h : Hp} {a : Nat} {N : Int → Int} {B : Bok} {S T : Nat → Prop} (hW : WN G h a N B S T) (hT : ∀ i, T i → ¬ fre h i) {w : Nat} {it : Nat} (hf : fre h it) : ∀ (n : Nat) {H : Hp} {B2 : Bok} {cur c0 s0 : Nat} (hF : Fr (fun _ => False) h H) (hW2 : WN G H w (cnt N (kc N 6 (cur : Int))) B2 (snew h H) T) (hI : IT H it (B.1 6) cur) (hc : cur + n = (nj N 6).toNat) (hcs : c0 + 2 * n ≤ 733) (hss : s0 + 207 * n ≤ 13807), YY G MX12_copy (rmL 9 740 14000) 267 [(0, rf G 51 a), (1, rf G 51 w), (2, rf G 57 it)] [] H c0 s0 (fun v h1 => ∃ B2, v = some (rf G 51 w) ∧ WN G h1 w N B2 (snew h h1) T ∧ Fr (fun _ => False) h h1) := by
  intro n
  induction n with
  | zero =>
    intro H B2 cur c0 s0 hF hW2 hI hc hcs hss
    have hWs := hW.fr0 hF
    have hmx := hW.nb 6
    change 0 ≤ nj N 6 ∧ nj N 6 ≤ 16 at hmx
    refine o_aload_n (pc := 267) dX12_copy_267 2 rfl ?_
    refine o_callF (pc := 268) (q := (RJx35411, TJx35411, 4)) _ dX12_copy_268 (cl_hasNext (hWs.l 6) hI (by omega)) lfX12_66 (fun s hs => hs.2.2.2.2.2.2.2.2.2.2.1) rfl rfl rfl hI.1 ⟨⟨by simp only [rmL]; omega, by simp only [rmL]; omega⟩, by simp only [rmL]; omega, by simp only [rmL]; omega⟩ (Nat.le_of_ble_eq_true rfl) rfl (fun v h2 hq2 => ?_)
    obtain ⟨rfl, e2⟩ := hq2
    obtain rfl := e2.symm
    rw [if_pos (by omega)]
    refine o_if_eq (pc := 273) 301 dX12_copy_273 (by decide) (by unfold inI; omega) (fun c_273 => ?_) (fun c_273 => (by exfalso; omega))
    exact o_lv [0, 1] rfl (cp_301 hW hT hF (by rw [← kc_next (j := 6) (cur := (cur : Int)) (by omega)]; exact hW2) (by simp only [rmL]; omega) (by simp only [rmL]; omega))
  | succ n ih =>
    intro H B2 cur c0 s0 hF hW2 hI hc hcs hss
    have hWs := hW.fr0 hF
    have hmx := hW.nb 6
    change 0 ≤ nj N 6 ∧ nj N 6 ≤ 16 at hmx
    have hq : (cur : Int) < nj N 6 := by omega
    refine o_aload_n (pc := 267) dX12_copy_267 2 rfl ?_
    refine o_callF (pc := 268) (q := (RJx35411, TJx35411, 4)) _ dX12_copy_268 (cl_hasNext (hWs.l 6) hI (by omega)) lfX12_66 (fun s hs => hs.2.2.2.2.2.2.2.2.2.2.1) rfl rfl rfl hI.1 ⟨⟨by simp only [rmL]; omega, by simp only [rmL]; omega⟩, by simp only [rmL]; omega, by simp only [rmL]; omega⟩ (Nat.le_of_ble_eq_true rfl) rfl (fun v h2 hq2 => ?_)
    obtain ⟨rfl, e2⟩ := hq2
    obtain rfl := e2.symm
    rw [if_neg (by omega)]
    refine o_if_eq (pc := 273) 301 dX12_copy_273 (by decide) (by unfold inI; omega) (fun c_273 => (by exfalso; omega)) (fun c_273 => ?_)
    refine o_aload_n (pc := 276) dX12_copy_276 2 rfl ?_
    refine o_callF (pc := 277) (q := (RJx35411, TJx35411, 4)) _ dX12_copy_277 (cl_next (hWs.l 6) hI (by omega)) lfX12_72 (fun s hs => hs.2.2.2.2.2.2.2.2.2.2.2.1) rfl rfl rfl hI.1 ⟨⟨by simp only [rmL]; omega, by simp only [rmL]; omega⟩, by simp only [rmL]; omega, by simp only [rmL]; omega⟩ (Nat.le_of_ble_eq_true rfl) rfl (fun v h2 hq2 => ?_)
    obtain ⟨rfl, rfl⟩ := hq2
    have hF2 := Fr_next (z := (cur : Int) + 1) (w := (cur : Int)) hF hf
    have hI2 := hI.next
    have hWs2 := hW.fr0 hF2
    have hW3 := ((hW2.h57 (i := it) (j := 0) (z := (cur : Int) + 1)).h57 (i := it) (j := 1) (z := (cur : Int))).reS rfl
    show YY _ _ _ _ _ (rf G 55 (bE B 6 cur) :: _) _ _ _ _
    refine o_castO (pc := 282) dX12_copy_282 clX12_101 rfl rfl (hWs2.mE 6 hq) ?_
    refine o_astore_n (pc := 285) (lv' := [(3, _), (0, _), (1, _), (2, _)]) dX12_copy_285 rfl (by decide) rfl ?_
    refine o_aload_n (pc := 286) dX12_copy_286 2 rfl ?_
    refine o_gR (pc := 287) (j := 13) (56) ((B2.1 6)) dX12_copy_287 flX12_38 rfl rfl hW3.mW (hW3.r 6) ?_
    refine o_aload_n (pc := 290) dX12_copy_290 0 rfl ?_
    refine o_callV (pc := 291) _ dX12_copy_291 (cw_cp55 (hWs2.mE 6 hq) hF2.2.2.2.2) lkX12_103 rfl rfl rfl rfl (hWs2.mE 6 hq) ⟨⟨by simp only [rmL]; omega, by simp only [rmL]; omega⟩, by simp only [rmL]; omega, by simp only [rmL]; omega⟩ (Nat.le_of_ble_eq_true rfl) rfl (fun v h2 hq2 => ?_)
    obtain ⟨e, rfl, fe, me, F1, fv⟩ := hq2
    have hW4 := hW3.fr0 F1
    refine o_callV (pc := 294) _ dX12_copy_294 (cl_add (hW4.lc (j := 6) (cur := cur) (by decide) kc_at) F1.2.2.2.2 (by have := hmx; omega) (pk_isE 6) me) lkX12_81 rfl rfl rfl rfl (hW4.l 6).1 ⟨⟨by simp only [rmL]; omega, by simp only [rmL]; omega⟩, by simp only [rmL]; omega, by simp only [rmL]; omega⟩ (Nat.le_of_ble_eq_true rfl) rfl (fun v h2 hq2 => ?_)
    obtain ⟨rfl, c1, b1, hA, FA, hb⟩ := hq2
    refine o_uq (fun hu => ?_)
    have CA := WN.cpAdd (h := h) (N := N) (j := 6) (cur := cur) (l := B.1 6) hW4 hT hF2 F1 hu (by decide) hq (hW.nb 6).2 hA FA hb me fe (fun f hf => (fv f hf).trans (hWs2.e 6 hq f hf)) (hW.l 6).1
    have hI4 := CA.2.2 it (cur + 1) (hI2.fr F1 ((hWs2.l 6).1) (fun z => z) (fun z => z))
    refine o_pop (pc := 297) dX12_copy_297 rfl ?_
    refine o_goto (pc := 298) 267 dX12_copy_298 (by decide) ?_
    exact o_lv [1, 2, 3] rfl (ih CA.2.1 CA.1 hI4 (by omega) (by simp only [rmL]; omega) (by simp only [rmL]; omega))
theorem cp_259 {G : GG} {h : Hp} {a : Nat} {N : Int → Int} {B : Bok} {S T : Nat → Prop} (hW : WN G h a N B S T) (hT : ∀ i, T i → ¬ fre h i) {w : Nat} {H : Hp} {B2 : Bok} {c0 s0 : Nat} (hF : Fr (fun _ => False) h H) (hW2 : WN G H w (cnt N (kc N 6 0)) B2 (snew h H) T) (hcs : c0 ≤ 700) (hss : s0 ≤ 10491) : YY G MX12_copy (rmL 9 740 14000) 259 [(0, rf G 51 a), (1, rf G 51 w)] [] H c0 s0 (fun v h1 => ∃ B2, v = some (rf G 51 w) ∧ WN G h1 w N B2 (snew h h1) T ∧ Fr (fun _ => False) h h1) := by
  have hWs := hW.fr0 hF
  refine o_aload_n (pc := 259) dX12_copy_259 0 rfl ?_
  refine o_gR (pc := 260) (j := 13) (56) ((B.1 6)) dX12_copy_260 flX12_38 rfl rfl hWs.mW (hWs.r 6) ?_
  refine o_callV (pc := 263) _ dX12_copy_263 (cl_iterator (hWs.l 6) hF.2.2.2.2) lkX12_62 rfl rfl rfl rfl (hWs.l 6).1 ⟨⟨by simp only [rmL]; omega, by simp only [rmL]; omega⟩, by simp only [rmL]; omega, by simp only [rmL]; omega⟩ (Nat.le_of_ble_eq_true rfl) rfl (fun v h2 hq2 => ?_)
  obtain ⟨it, rfl, hf, hI, hF2⟩ := hq2
  have hW3 := (hW2.fr0 hF2).grow hF2 hT
  refine o_astore_n (pc := 266) (lv' := [(2, _), (0, _), (1, _)]) dX12_copy_266 rfl (by decide) rfl ?_
  exact o_lv [1, 2, 0] rfl (lp_cp6 hW hT (Fr_fre hF hf) (nj N 6).toNat (cur := 0) (hF.tr hF2 (fun _ z => z.elim)) hW3 hI (by omega) (by have := (hW.nb 6); change 0 ≤ nj N 6 ∧ nj N 6 ≤ 16 at this; simp only [rmL]; omega) (by have := (hW.nb 6); change 0 ≤ nj N 6 ∧ nj N 6 ≤ 16 at this; simp only [rmL]; omega))
theorem lp_cp5 {G : GG} {h : Hp} {a : Nat} {N : Int → Int} {B : Bok} {S T : Nat → Prop} (hW : WN G h a N B S T) (hT : ∀ i, T i → ¬ fre h i) {w : Nat} (hbk : ∀ k : Nat, 0 ≤ (k : Int) → (k : Int) < N 8 → N (270 + 6 * (k : Int) + 5) = 0 ∨ N (270 + 6 * (k : Int) + 5) = 1) {it : Nat} (hf : fre h it) : ∀ (n : Nat) {H : Hp} {B2 : Bok} {cur c0 s0 : Nat} (hF : Fr (fun _ => False) h H) (hW2 : WN G H w (cnt N (kc N 5 (cur : Int))) B2 (snew h H) T) (hI : IT H it (B.1 5) cur) (hc : cur + n = (nj N 5).toNat) (hcs : c0 + 2 * n ≤ 700) (hss : s0 + 206 * n ≤ 10491), YY G MX12_copy (rmL 9 740 14000) 225 [(0, rf G 51 a), (1, rf G 51 w), (2, rf G 57 it)] [] H c0 s0 (fun v h1 => ∃ B2, v = some (rf G 51 w) ∧ WN G h1 w N B2 (snew h h1) T ∧ Fr (fun _ => False) h h1) := by
  intro n
  induction n with
  | zero =>
    intro H B2 cur c0 s0 hF hW2 hI hc hcs hss
    have hWs := hW.fr0 hF
    have hmx := hW.nb 5
    change 0 ≤ nj N 5 ∧ nj N 5 ≤ 8 at hmx
    refine o_aload_n (pc := 225) dX12_copy_225 2 rfl ?_
    refine o_callF (pc := 226) (q := (RJx35411, TJx35411, 4)) _ dX12_copy_226 (cl_hasNext (hWs.l 5) hI (by omega)) lfX12_66 (fun s hs => hs.2.2.2.2.2.2.2.2.2.2.1) rfl rfl rfl hI.1 ⟨⟨by simp only [rmL]; omega, by simp only [rmL]; omega⟩, by simp only [rmL]; omega, by simp only [rmL]; omega⟩ (Nat.le_of_ble_eq_true rfl) rfl (fun v h2 hq2 => ?_)
    obtain ⟨rfl, e2⟩ := hq2
    obtain rfl := e2.symm
    rw [if_pos (by omega)]
    refine o_if_eq (pc := 231) 259 dX12_copy_231 (by decide) (by unfold inI; omega) (fun c_231 => ?_) (fun c_231 => (by exfalso; omega))
    exact o_lv [0, 1] rfl (cp_259 hW hT hF (by rw [← kc_next (j := 5) (cur := (cur : Int)) (by omega)]; exact hW2) (by simp only [rmL]; omega) (by simp only [rmL]; omega))
  | succ n ih =>
    intro H B2 cur c0 s0 hF hW2 hI hc hcs hss
    have hWs := hW.fr0 hF
    have hmx := hW.nb 5
    change 0 ≤ nj N 5 ∧ nj N 5 ≤ 8 at hmx
    have hq : (cur : Int) < nj N 5 := by omega
    refine o_aload_n (pc := 225) dX12_copy_225 2 rfl ?_
    refine o_callF (pc := 226) (q := (RJx35411, TJx35411, 4)) _ dX12_copy_226 (cl_hasNext (hWs.l 5) hI (by omega)) lfX12_66 (fun s hs => hs.2.2.2.2.2.2.2.2.2.2.1) rfl rfl rfl hI.1 ⟨⟨by simp only [rmL]; omega, by simp only [rmL]; omega⟩, by simp only [rmL]; omega, by simp only [rmL]; omega⟩ (Nat.le_of_ble_eq_true rfl) rfl (fun v h2 hq2 => ?_)
    obtain ⟨rfl, e2⟩ := hq2
    obtain rfl := e2.symm
    rw [if_neg (by omega)]
    refine o_if_eq (pc := 231) 259 dX12_copy_231 (by decide) (by unfold inI; omega) (fun c_231 => (by exfalso; omega)) (fun c_231 => ?_)
    refine o_aload_n (pc := 234) dX12_copy_234 2 rfl ?_
    refine o_callF (pc := 235) (q := (RJx35411, TJx35411, 4)) _ dX12_copy_235 (cl_next (hWs.l 5) hI (by omega)) lfX12_72 (fun s hs => hs.2.2.2.2.2.2.2.2.2.2.2.1) rfl rfl rfl hI.1 ⟨⟨by simp only [rmL]; omega, by simp only [rmL]; omega⟩, by simp only [rmL]; omega, by simp only [rmL]; omega⟩ (Nat.le_of_ble_eq_true rfl) rfl (fun v h2 hq2 => ?_)
    obtain ⟨rfl, rfl⟩ := hq2
    have hF2 := Fr_next (z := (cur : Int) + 1) (w := (cur : Int)) hF hf
    have hI2 := hI.next
    have hWs2 := hW.fr0 hF2
    have hW3 := ((hW2.h57 (i := it) (j := 0) (z := (cur : Int) + 1)).h57 (i := it) (j := 1) (z := (cur : Int))).reS rfl
    show YY _ _ _ _ _ (rf G 54 (bE B 5 cur) :: _) _ _ _ _
    refine o_castO (pc := 240) dX12_copy_240 clX12_96 rfl rfl (hWs2.mE 5 hq) ?_
    refine o_astore_n (pc := 243) (lv' := [(3, _), (0, _), (1, _), (2, _)]) dX12_copy_243 rfl (by decide) rfl ?_
    refine o_aload_n (pc := 244) dX12_copy_244 2 rfl ?_
    refine o_gR (pc := 245) (j := 12) (56) ((B2.1 5)) dX12_copy_245 flX12_35 rfl rfl hW3.mW (hW3.r 5) ?_
    refine o_aload_n (pc := 248) dX12_copy_248 0 rfl ?_
    refine o_callV (pc := 249) _ dX12_copy_249 (cw_cp54 (hWs2.mE 5 hq) hF2.2.2.2.2 (by rw [hWs2.k5 hq]; exact hbk cur (by omega) hq)) lkX12_98 rfl rfl rfl rfl (hWs2.mE 5 hq) ⟨⟨by simp only [rmL]; omega, by simp only [rmL]; omega⟩, by simp only [rmL]; omega, by simp only [rmL]; omega⟩ (Nat.le_of_ble_eq_true rfl) rfl (fun v h2 hq2 => ?_)
    obtain ⟨e, rfl, fe, me, F1, fv⟩ := hq2
    have hW4 := hW3.fr0 F1
    refine o_callV (pc := 252) _ dX12_copy_252 (cl_add (hW4.lc (j := 5) (cur := cur) (by decide) kc_at) F1.2.2.2.2 (by have := hmx; omega) (pk_isE 5) me) lkX12_81 rfl rfl rfl rfl (hW4.l 5).1 ⟨⟨by simp only [rmL]; omega, by simp only [rmL]; omega⟩, by simp only [rmL]; omega, by simp only [rmL]; omega⟩ (Nat.le_of_ble_eq_true rfl) rfl (fun v h2 hq2 => ?_)
    obtain ⟨rfl, c1, b1, hA, FA, hb⟩ := hq2
    refine o_uq (fun hu => ?_)
    have CA := WN.cpAdd (h := h) (N := N) (j := 5) (cur := cur) (l := B.1 5) hW4 hT hF2 F1 hu (by decide) hq (hW.nb 5).2 hA FA hb me fe (fun f hf => (fv f hf).trans (hWs2.e 5 hq f hf)) (hW.l 5).1
    have hI4 := CA.2.2 it (cur + 1) (hI2.fr F1 ((hWs2.l 5).1) (fun z => z) (fun z => z))
    refine o_pop (pc := 255) dX12_copy_255 rfl ?_
    refine o_goto (pc := 256) 225 dX12_copy_256 (by decide) ?_
    exact o_lv [1, 2, 3] rfl (ih CA.2.1 CA.1 hI4 (by omega) (by simp only [rmL]; omega) (by simp only [rmL]; omega))
theorem cp_217 {G : GG} {h : Hp} {a : Nat} {N : Int → Int} {B : Bok} {S T : Nat → Prop} (hW : WN G h a N B S T) (hT : ∀ i, T i → ¬ fre h i) {w : Nat} (hbk : ∀ k : Nat, 0 ≤ (k : Int) → (k : Int) < N 8 → N (270 + 6 * (k : Int) + 5) = 0 ∨ N (270 + 6 * (k : Int) + 5) = 1) {H : Hp} {B2 : Bok} {c0 s0 : Nat} (hF : Fr (fun _ => False) h H) (hW2 : WN G H w (cnt N (kc N 5 0)) B2 (snew h H) T) (hcs : c0 ≤ 683) (hss : s0 ≤ 8839) : YY G MX12_copy (rmL 9 740 14000) 217 [(0, rf G 51 a), (1, rf G 51 w)] [] H c0 s0 (fun v h1 => ∃ B2, v = some (rf G 51 w) ∧ WN G h1 w N B2 (snew h h1) T ∧ Fr (fun _ => False) h h1) := by
  have hWs := hW.fr0 hF
  refine o_aload_n (pc := 217) dX12_copy_217 0 rfl ?_
  refine o_gR (pc := 218) (j := 12) (56) ((B.1 5)) dX12_copy_218 flX12_35 rfl rfl hWs.mW (hWs.r 5) ?_
  refine o_callV (pc := 221) _ dX12_copy_221 (cl_iterator (hWs.l 5) hF.2.2.2.2) lkX12_62 rfl rfl rfl rfl (hWs.l 5).1 ⟨⟨by simp only [rmL]; omega, by simp only [rmL]; omega⟩, by simp only [rmL]; omega, by simp only [rmL]; omega⟩ (Nat.le_of_ble_eq_true rfl) rfl (fun v h2 hq2 => ?_)
  obtain ⟨it, rfl, hf, hI, hF2⟩ := hq2
  have hW3 := (hW2.fr0 hF2).grow hF2 hT
  refine o_astore_n (pc := 224) (lv' := [(2, _), (0, _), (1, _)]) dX12_copy_224 rfl (by decide) rfl ?_
  exact o_lv [1, 2, 0] rfl (lp_cp5 hW hT hbk (Fr_fre hF hf) (nj N 5).toNat (cur := 0) (hF.tr hF2 (fun _ z => z.elim)) hW3 hI (by omega) (by have := (hW.nb 5); change 0 ≤ nj N 5 ∧ nj N 5 ≤ 8 at this; simp only [rmL]; omega) (by have := (hW.nb 5); change 0 ≤ nj N 5 ∧ nj N 5 ≤ 8 at this; simp only [rmL]; omega))
theorem lp_cp4 {G : GG} {h : Hp} {a : Nat} {N : Int → Int} {B : Bok} {S T : Nat → Prop} (hW : WN G h a N B S T) (hT : ∀ i, T i → ¬ fre h i) {w : Nat} (hbk : ∀ k : Nat, 0 ≤ (k : Int) → (k : Int) < N 8 → N (270 + 6 * (k : Int) + 5) = 0 ∨ N (270 + 6 * (k : Int) + 5) = 1) {it : Nat} (hf : fre h it) : ∀ (n : Nat) {H : Hp} {B2 : Bok} {cur c0 s0 : Nat} (hF : Fr (fun _ => False) h H) (hW2 : WN G H w (cnt N (kc N 4 (cur : Int))) B2 (snew h H) T) (hI : IT H it (B.1 4) cur) (hc : cur + n = (nj N 4).toNat) (hcs : c0 + 2 * n ≤ 683) (hss : s0 + 206 * n ≤ 8839), YY G MX12_copy (rmL 9 740 14000) 183 [(0, rf G 51 a), (1, rf G 51 w), (2, rf G 57 it)] [] H c0 s0 (fun v h1 => ∃ B2, v = some (rf G 51 w) ∧ WN G h1 w N B2 (snew h h1) T ∧ Fr (fun _ => False) h h1) := by
  intro n
  induction n with
  | zero =>
    intro H B2 cur c0 s0 hF hW2 hI hc hcs hss
    have hWs := hW.fr0 hF
    have hmx := hW.nb 4
    change 0 ≤ nj N 4 ∧ nj N 4 ≤ 12 at hmx
    refine o_aload_n (pc := 183) dX12_copy_183 2 rfl ?_
    refine o_callF (pc := 184) (q := (RJx35411, TJx35411, 4)) _ dX12_copy_184 (cl_hasNext (hWs.l 4) hI (by omega)) lfX12_66 (fun s hs => hs.2.2.2.2.2.2.2.2.2.2.1) rfl rfl rfl hI.1 ⟨⟨by simp only [rmL]; omega, by simp only [rmL]; omega⟩, by simp only [rmL]; omega, by simp only [rmL]; omega⟩ (Nat.le_of_ble_eq_true rfl) rfl (fun v h2 hq2 => ?_)
    obtain ⟨rfl, e2⟩ := hq2
    obtain rfl := e2.symm
    rw [if_pos (by omega)]
    refine o_if_eq (pc := 189) 217 dX12_copy_189 (by decide) (by unfold inI; omega) (fun c_189 => ?_) (fun c_189 => (by exfalso; omega))
    exact o_lv [0, 1] rfl (cp_217 hW hT hbk hF (by rw [← kc_next (j := 4) (cur := (cur : Int)) (by omega)]; exact hW2) (by simp only [rmL]; omega) (by simp only [rmL]; omega))
  | succ n ih =>
    intro H B2 cur c0 s0 hF hW2 hI hc hcs hss
    have hWs := hW.fr0 hF
    have hmx := hW.nb 4
    change 0 ≤ nj N 4 ∧ nj N 4 ≤ 12 at hmx
    have hq : (cur : Int) < nj N 4 := by omega
    refine o_aload_n (pc := 183) dX12_copy_183 2 rfl ?_
    refine o_callF (pc := 184) (q := (RJx35411, TJx35411, 4)) _ dX12_copy_184 (cl_hasNext (hWs.l 4) hI (by omega)) lfX12_66 (fun s hs => hs.2.2.2.2.2.2.2.2.2.2.1) rfl rfl rfl hI.1 ⟨⟨by simp only [rmL]; omega, by simp only [rmL]; omega⟩, by simp only [rmL]; omega, by simp only [rmL]; omega⟩ (Nat.le_of_ble_eq_true rfl) rfl (fun v h2 hq2 => ?_)
    obtain ⟨rfl, e2⟩ := hq2
    obtain rfl := e2.symm
    rw [if_neg (by omega)]
    refine o_if_eq (pc := 189) 217 dX12_copy_189 (by decide) (by unfold inI; omega) (fun c_189 => (by exfalso; omega)) (fun c_189 => ?_)
    refine o_aload_n (pc := 192) dX12_copy_192 2 rfl ?_
    refine o_callF (pc := 193) (q := (RJx35411, TJx35411, 4)) _ dX12_copy_193 (cl_next (hWs.l 4) hI (by omega)) lfX12_72 (fun s hs => hs.2.2.2.2.2.2.2.2.2.2.2.1) rfl rfl rfl hI.1 ⟨⟨by simp only [rmL]; omega, by simp only [rmL]; omega⟩, by simp only [rmL]; omega, by simp only [rmL]; omega⟩ (Nat.le_of_ble_eq_true rfl) rfl (fun v h2 hq2 => ?_)
    obtain ⟨rfl, rfl⟩ := hq2
    have hF2 := Fr_next (z := (cur : Int) + 1) (w := (cur : Int)) hF hf
    have hI2 := hI.next
    have hWs2 := hW.fr0 hF2
    have hW3 := ((hW2.h57 (i := it) (j := 0) (z := (cur : Int) + 1)).h57 (i := it) (j := 1) (z := (cur : Int))).reS rfl
    show YY _ _ _ _ _ (rf G 53 (bE B 4 cur) :: _) _ _ _ _
    refine o_castO (pc := 198) dX12_copy_198 clX12_91 rfl rfl (hWs2.mE 4 hq) ?_
    refine o_astore_n (pc := 201) (lv' := [(3, _), (0, _), (1, _), (2, _)]) dX12_copy_201 rfl (by decide) rfl ?_
    refine o_aload_n (pc := 202) dX12_copy_202 2 rfl ?_
    refine o_gR (pc := 203) (j := 11) (56) ((B2.1 4)) dX12_copy_203 flX12_32 rfl rfl hW3.mW (hW3.r 4) ?_
    refine o_aload_n (pc := 206) dX12_copy_206 0 rfl ?_
    refine o_callV (pc := 207) _ dX12_copy_207 (cw_cp53 (hWs2.mE 4 hq) hF2.2.2.2.2) lkX12_93 rfl rfl rfl rfl (hWs2.mE 4 hq) ⟨⟨by simp only [rmL]; omega, by simp only [rmL]; omega⟩, by simp only [rmL]; omega, by simp only [rmL]; omega⟩ (Nat.le_of_ble_eq_true rfl) rfl (fun v h2 hq2 => ?_)
    obtain ⟨e, rfl, fe, me, F1, fv⟩ := hq2
    have hW4 := hW3.fr0 F1
    refine o_callV (pc := 210) _ dX12_copy_210 (cl_add (hW4.lc (j := 4) (cur := cur) (by decide) kc_at) F1.2.2.2.2 (by have := hmx; omega) (pk_isE 4) me) lkX12_81 rfl rfl rfl rfl (hW4.l 4).1 ⟨⟨by simp only [rmL]; omega, by simp only [rmL]; omega⟩, by simp only [rmL]; omega, by simp only [rmL]; omega⟩ (Nat.le_of_ble_eq_true rfl) rfl (fun v h2 hq2 => ?_)
    obtain ⟨rfl, c1, b1, hA, FA, hb⟩ := hq2
    refine o_uq (fun hu => ?_)
    have CA := WN.cpAdd (h := h) (N := N) (j := 4) (cur := cur) (l := B.1 4) hW4 hT hF2 F1 hu (by decide) hq (hW.nb 4).2 hA FA hb me fe (fun f hf => (fv f hf).trans (hWs2.e 4 hq f hf)) (hW.l 4).1
    have hI4 := CA.2.2 it (cur + 1) (hI2.fr F1 ((hWs2.l 4).1) (fun z => z) (fun z => z))
    refine o_pop (pc := 213) dX12_copy_213 rfl ?_
    refine o_goto (pc := 214) 183 dX12_copy_214 (by decide) ?_
    exact o_lv [1, 2, 3] rfl (ih CA.2.1 CA.1 hI4 (by omega) (by simp only [rmL]; omega) (by simp only [rmL]; omega))
theorem cp_175 {G : GG} {h : Hp} {a : Nat} {N : Int → Int} {B : Bok} {S T : Nat → Prop} (hW : WN G h a N B S T) (hT : ∀ i, T i → ¬ fre h i) {w : Nat} (hbk : ∀ k : Nat, 0 ≤ (k : Int) → (k : Int) < N 8 → N (270 + 6 * (k : Int) + 5) = 0 ∨ N (270 + 6 * (k : Int) + 5) = 1) {H : Hp} {B2 : Bok} {c0 s0 : Nat} (hF : Fr (fun _ => False) h H) (hW2 : WN G H w (cnt N (kc N 4 0)) B2 (snew h H) T) (hcs : c0 ≤ 658) (hss : s0 ≤ 6363) : YY G MX12_copy (rmL 9 740 14000) 175 [(0, rf G 51 a), (1, rf G 51 w)] [] H c0 s0 (fun v h1 => ∃ B2, v = some (rf G 51 w) ∧ WN G h1 w N B2 (snew h h1) T ∧ Fr (fun _ => False) h h1) := by
  have hWs := hW.fr0 hF
  refine o_aload_n (pc := 175) dX12_copy_175 0 rfl ?_
  refine o_gR (pc := 176) (j := 11) (56) ((B.1 4)) dX12_copy_176 flX12_32 rfl rfl hWs.mW (hWs.r 4) ?_
  refine o_callV (pc := 179) _ dX12_copy_179 (cl_iterator (hWs.l 4) hF.2.2.2.2) lkX12_62 rfl rfl rfl rfl (hWs.l 4).1 ⟨⟨by simp only [rmL]; omega, by simp only [rmL]; omega⟩, by simp only [rmL]; omega, by simp only [rmL]; omega⟩ (Nat.le_of_ble_eq_true rfl) rfl (fun v h2 hq2 => ?_)
  obtain ⟨it, rfl, hf, hI, hF2⟩ := hq2
  have hW3 := (hW2.fr0 hF2).grow hF2 hT
  refine o_astore_n (pc := 182) (lv' := [(2, _), (0, _), (1, _)]) dX12_copy_182 rfl (by decide) rfl ?_
  exact o_lv [1, 2, 0] rfl (lp_cp4 hW hT hbk (Fr_fre hF hf) (nj N 4).toNat (cur := 0) (hF.tr hF2 (fun _ z => z.elim)) hW3 hI (by omega) (by have := (hW.nb 4); change 0 ≤ nj N 4 ∧ nj N 4 ≤ 12 at this; simp only [rmL]; omega) (by have := (hW.nb 4); change 0 ≤ nj N 4 ∧ nj N 4 ≤ 12 at this; simp only [rmL]; omega))
theorem lp_cp3 {G : GG} {h : Hp} {a : Nat} {N : Int → Int} {B : Bok} {S T : Nat → Prop} (hW : WN G h a N B S T) (hT : ∀ i, T i → ¬ fre h i) {w : Nat} (hbk : ∀ k : Nat, 0 ≤ (k : Int) → (k : Int) < N 8 → N (270 + 6 * (k : Int) + 5) = 0 ∨ N (270 + 6 * (k : Int) + 5) = 1) {it : Nat} (hf : fre h it) : ∀ (n : Nat) {H : Hp} {B2 : Bok} {cur c0 s0 : Nat} (hF : Fr (fun _ => False) h H) (hW2 : WN G H w (cnt N (kc N 3 (cur : Int))) B2 (snew h H) T) (hI : IT H it (B.1 3) cur) (hc : cur + n = (nj N 3).toNat) (hcs : c0 + 2 * n ≤ 658) (hss : s0 + 207 * n ≤ 6363), YY G MX12_copy (rmL 9 740 14000) 141 [(0, rf G 51 a), (1, rf G 51 w), (2, rf G 57 it)] [] H c0 s0 (fun v h1 => ∃ B2, v = some (rf G 51 w) ∧ WN G h1 w N B2 (snew h h1) T ∧ Fr (fun _ => False) h h1) := by
  intro n
  induction n with
  | zero =>
    intro H B2 cur c0 s0 hF hW2 hI hc hcs hss
    have hWs := hW.fr0 hF
    have hmx := hW.nb 3
    change 0 ≤ nj N 3 ∧ nj N 3 ≤ 8 at hmx
    refine o_aload_n (pc := 141) dX12_copy_141 2 rfl ?_
    refine o_callF (pc := 142) (q := (RJx35411, TJx35411, 4)) _ dX12_copy_142 (cl_hasNext (hWs.l 3) hI (by omega)) lfX12_66 (fun s hs => hs.2.2.2.2.2.2.2.2.2.2.1) rfl rfl rfl hI.1 ⟨⟨by simp only [rmL]; omega, by simp only [rmL]; omega⟩, by simp only [rmL]; omega, by simp only [rmL]; omega⟩ (Nat.le_of_ble_eq_true rfl) rfl (fun v h2 hq2 => ?_)
    obtain ⟨rfl, e2⟩ := hq2
    obtain rfl := e2.symm
    rw [if_pos (by omega)]
    refine o_if_eq (pc := 147) 175 dX12_copy_147 (by decide) (by unfold inI; omega) (fun c_147 => ?_) (fun c_147 => (by exfalso; omega))
    exact o_lv [0, 1] rfl (cp_175 hW hT hbk hF (by rw [← kc_next (j := 3) (cur := (cur : Int)) (by omega)]; exact hW2) (by simp only [rmL]; omega) (by simp only [rmL]; omega))
  | succ n ih =>
    intro H B2 cur c0 s0 hF hW2 hI hc hcs hss
    have hWs := hW.fr0 hF
    have hmx := hW.nb 3
    change 0 ≤ nj N 3 ∧ nj N 3 ≤ 8 at hmx
    have hq : (cur : Int) < nj N 3 := by omega
    refine o_aload_n (pc := 141) dX12_copy_141 2 rfl ?_
    refine o_callF (pc := 142) (q := (RJx35411, TJx35411, 4)) _ dX12_copy_142 (cl_hasNext (hWs.l 3) hI (by omega)) lfX12_66 (fun s hs => hs.2.2.2.2.2.2.2.2.2.2.1) rfl rfl rfl hI.1 ⟨⟨by simp only [rmL]; omega, by simp only [rmL]; omega⟩, by simp only [rmL]; omega, by simp only [rmL]; omega⟩ (Nat.le_of_ble_eq_true rfl) rfl (fun v h2 hq2 => ?_)
    obtain ⟨rfl, e2⟩ := hq2
    obtain rfl := e2.symm
    rw [if_neg (by omega)]
    refine o_if_eq (pc := 147) 175 dX12_copy_147 (by decide) (by unfold inI; omega) (fun c_147 => (by exfalso; omega)) (fun c_147 => ?_)
    refine o_aload_n (pc := 150) dX12_copy_150 2 rfl ?_
    refine o_callF (pc := 151) (q := (RJx35411, TJx35411, 4)) _ dX12_copy_151 (cl_next (hWs.l 3) hI (by omega)) lfX12_72 (fun s hs => hs.2.2.2.2.2.2.2.2.2.2.2.1) rfl rfl rfl hI.1 ⟨⟨by simp only [rmL]; omega, by simp only [rmL]; omega⟩, by simp only [rmL]; omega, by simp only [rmL]; omega⟩ (Nat.le_of_ble_eq_true rfl) rfl (fun v h2 hq2 => ?_)
    obtain ⟨rfl, rfl⟩ := hq2
    have hF2 := Fr_next (z := (cur : Int) + 1) (w := (cur : Int)) hF hf
    have hI2 := hI.next
    have hWs2 := hW.fr0 hF2
    have hW3 := ((hW2.h57 (i := it) (j := 0) (z := (cur : Int) + 1)).h57 (i := it) (j := 1) (z := (cur : Int))).reS rfl
    show YY _ _ _ _ _ (rf G 52 (bE B 3 cur) :: _) _ _ _ _
    refine o_castO (pc := 156) dX12_copy_156 clX12_85 rfl rfl (hWs2.mE 3 hq) ?_
    refine o_astore_n (pc := 159) (lv' := [(3, _), (0, _), (1, _), (2, _)]) dX12_copy_159 rfl (by decide) rfl ?_
    refine o_aload_n (pc := 160) dX12_copy_160 2 rfl ?_
    refine o_gR (pc := 161) (j := 10) (56) ((B2.1 3)) dX12_copy_161 flX12_29 rfl rfl hW3.mW (hW3.r 3) ?_
    refine o_aload_n (pc := 164) dX12_copy_164 0 rfl ?_
    refine o_callV (pc := 165) _ dX12_copy_165 (cw_cp52 (hWs2.mE 3 hq) hF2.2.2.2.2) lkX12_87 rfl rfl rfl rfl (hWs2.mE 3 hq) ⟨⟨by simp only [rmL]; omega, by simp only [rmL]; omega⟩, by simp only [rmL]; omega, by simp only [rmL]; omega⟩ (Nat.le_of_ble_eq_true rfl) rfl (fun v h2 hq2 => ?_)
    obtain ⟨e, rfl, fe, me, F1, fv⟩ := hq2
    have hW4 := hW3.fr0 F1
    refine o_callV (pc := 168) _ dX12_copy_168 (cl_add (hW4.lc (j := 3) (cur := cur) (by decide) kc_at) F1.2.2.2.2 (by have := hmx; omega) (pk_isE 3) me) lkX12_81 rfl rfl rfl rfl (hW4.l 3).1 ⟨⟨by simp only [rmL]; omega, by simp only [rmL]; omega⟩, by simp only [rmL]; omega, by simp only [rmL]; omega⟩ (Nat.le_of_ble_eq_true rfl) rfl (fun v h2 hq2 => ?_)
    obtain ⟨rfl, c1, b1, hA, FA, hb⟩ := hq2
    refine o_uq (fun hu => ?_)
    have CA := WN.cpAdd (h := h) (N := N) (j := 3) (cur := cur) (l := B.1 3) hW4 hT hF2 F1 hu (by decide) hq (hW.nb 3).2 hA FA hb me fe (fun f hf => (fv f hf).trans (hWs2.e 3 hq f hf)) (hW.l 3).1
    have hI4 := CA.2.2 it (cur + 1) (hI2.fr F1 ((hWs2.l 3).1) (fun z => z) (fun z => z))
    refine o_pop (pc := 171) dX12_copy_171 rfl ?_
    refine o_goto (pc := 172) 141 dX12_copy_172 (by decide) ?_
    exact o_lv [1, 2, 3] rfl (ih CA.2.1 CA.1 hI4 (by omega) (by simp only [rmL]; omega) (by simp only [rmL]; omega))
theorem cp_133 {G : GG} {h : Hp} {a : Nat} {N : Int → Int} {B : Bok} {S T : Nat → Prop} (hW : WN G h a N B S T) (hT : ∀ i, T i → ¬ fre h i) {w : Nat} (hbk : ∀ k : Nat, 0 ≤ (k : Int) → (k : Int) < N 8 → N (270 + 6 * (k : Int) + 5) = 0 ∨ N (270 + 6 * (k : Int) + 5) = 1) {H : Hp} {B2 : Bok} {c0 s0 : Nat} (hF : Fr (fun _ => False) h H) (hW2 : WN G H w (cnt N (kc N 3 0)) B2 (snew h H) T) (hcs : c0 ≤ 641) (hss : s0 ≤ 4703) : YY G MX12_copy (rmL 9 740 14000) 133 [(0, rf G 51 a), (1, rf G 51 w)] [] H c0 s0 (fun v h1 => ∃ B2, v = some (rf G 51 w) ∧ WN G h1 w N B2 (snew h h1) T ∧ Fr (fun _ => False) h h1) := by
  have hWs := hW.fr0 hF
  refine o_aload_n (pc := 133) dX12_copy_133 0 rfl ?_
  refine o_gR (pc := 134) (j := 10) (56) ((B.1 3)) dX12_copy_134 flX12_29 rfl rfl hWs.mW (hWs.r 3) ?_
  refine o_callV (pc := 137) _ dX12_copy_137 (cl_iterator (hWs.l 3) hF.2.2.2.2) lkX12_62 rfl rfl rfl rfl (hWs.l 3).1 ⟨⟨by simp only [rmL]; omega, by simp only [rmL]; omega⟩, by simp only [rmL]; omega, by simp only [rmL]; omega⟩ (Nat.le_of_ble_eq_true rfl) rfl (fun v h2 hq2 => ?_)
  obtain ⟨it, rfl, hf, hI, hF2⟩ := hq2
  have hW3 := (hW2.fr0 hF2).grow hF2 hT
  refine o_astore_n (pc := 140) (lv' := [(2, _), (0, _), (1, _)]) dX12_copy_140 rfl (by decide) rfl ?_
  exact o_lv [1, 2, 0] rfl (lp_cp3 hW hT hbk (Fr_fre hF hf) (nj N 3).toNat (cur := 0) (hF.tr hF2 (fun _ z => z.elim)) hW3 hI (by omega) (by have := (hW.nb 3); change 0 ≤ nj N 3 ∧ nj N 3 ≤ 8 at this; simp only [rmL]; omega) (by have := (hW.nb 3); change 0 ≤ nj N 3 ∧ nj N 3 ≤ 8 at this; simp only [rmL]; omega))
theorem lp_cp2 {G : GG} {h : Hp} {a : Nat} {N : Int → Int} {B : Bok} {S T : Nat → Prop} (hW : WN G h a N B S T) (hT : ∀ i, T i → ¬ fre h i) {w : Nat} (hbk : ∀ k : Nat, 0 ≤ (k : Int) → (k : Int) < N 8 → N (270 + 6 * (k : Int) + 5) = 0 ∨ N (270 + 6 * (k : Int) + 5) = 1) {it : Nat} (hf : fre h it) : ∀ (n : Nat) {H : Hp} {B2 : Bok} {cur c0 s0 : Nat} (hF : Fr (fun _ => False) h H) (hW2 : WN G H w (cnt N (kc N 2 (cur : Int))) B2 (snew h H) T) (hI : IT H it (B.1 2) cur) (hc : cur + n = (nj N 2).toNat) (hcs : c0 + 2 * n ≤ 641) (hss : s0 + 204 * n ≤ 4703), YY G MX12_copy (rmL 9 740 14000) 96 [(0, rf G 51 a), (1, rf G 51 w), (2, rf G 57 it)] [] H c0 s0 (fun v h1 => ∃ B2, v = some (rf G 51 w) ∧ WN G h1 w N B2 (snew h h1) T ∧ Fr (fun _ => False) h h1) := by
  intro n
  induction n with
  | zero =>
    intro H B2 cur c0 s0 hF hW2 hI hc hcs hss
    have hWs := hW.fr0 hF
    have hmx := hW.nb 2
    change 0 ≤ nj N 2 ∧ nj N 2 ≤ 16 at hmx
    refine o_aload_n (pc := 96) dX12_copy_96 2 rfl ?_
    refine o_callF (pc := 97) (q := (RJx35411, TJx35411, 4)) _ dX12_copy_97 (cl_hasNext (hWs.l 2) hI (by omega)) lfX12_66 (fun s hs => hs.2.2.2.2.2.2.2.2.2.2.1) rfl rfl rfl hI.1 ⟨⟨by simp only [rmL]; omega, by simp only [rmL]; omega⟩, by simp only [rmL]; omega, by simp only [rmL]; omega⟩ (Nat.le_of_ble_eq_true rfl) rfl (fun v h2 hq2 => ?_)
    obtain ⟨rfl, e2⟩ := hq2
    obtain rfl := e2.symm
    rw [if_pos (by omega)]
    refine o_if_eq (pc := 102) 133 dX12_copy_102 (by decide) (by unfold inI; omega) (fun c_102 => ?_) (fun c_102 => (by exfalso; omega))
    exact o_lv [0, 1] rfl (cp_133 hW hT hbk hF (by rw [← kc_next (j := 2) (cur := (cur : Int)) (by omega)]; exact hW2) (by simp only [rmL]; omega) (by simp only [rmL]; omega))
  | succ n ih =>
    intro H B2 cur c0 s0 hF hW2 hI hc hcs hss
    have hWs := hW.fr0 hF
    have hmx := hW.nb 2
    change 0 ≤ nj N 2 ∧ nj N 2 ≤ 16 at hmx
    have hq : (cur : Int) < nj N 2 := by omega
    refine o_aload_n (pc := 96) dX12_copy_96 2 rfl ?_
    refine o_callF (pc := 97) (q := (RJx35411, TJx35411, 4)) _ dX12_copy_97 (cl_hasNext (hWs.l 2) hI (by omega)) lfX12_66 (fun s hs => hs.2.2.2.2.2.2.2.2.2.2.1) rfl rfl rfl hI.1 ⟨⟨by simp only [rmL]; omega, by simp only [rmL]; omega⟩, by simp only [rmL]; omega, by simp only [rmL]; omega⟩ (Nat.le_of_ble_eq_true rfl) rfl (fun v h2 hq2 => ?_)
    obtain ⟨rfl, e2⟩ := hq2
    obtain rfl := e2.symm
    rw [if_neg (by omega)]
    refine o_if_eq (pc := 102) 133 dX12_copy_102 (by decide) (by unfold inI; omega) (fun c_102 => (by exfalso; omega)) (fun c_102 => ?_)
    refine o_aload_n (pc := 105) dX12_copy_105 2 rfl ?_
    refine o_callF (pc := 106) (q := (RJx35411, TJx35411, 4)) _ dX12_copy_106 (cl_next (hWs.l 2) hI (by omega)) lfX12_72 (fun s hs => hs.2.2.2.2.2.2.2.2.2.2.2.1) rfl rfl rfl hI.1 ⟨⟨by simp only [rmL]; omega, by simp only [rmL]; omega⟩, by simp only [rmL]; omega, by simp only [rmL]; omega⟩ (Nat.le_of_ble_eq_true rfl) rfl (fun v h2 hq2 => ?_)
    obtain ⟨rfl, rfl⟩ := hq2
    have hF2 := Fr_next (z := (cur : Int) + 1) (w := (cur : Int)) hF hf
    have hI2 := hI.next
    have hWs2 := hW.fr0 hF2
    have hW3 := ((hW2.h57 (i := it) (j := 0) (z := (cur : Int) + 1)).h57 (i := it) (j := 1) (z := (cur : Int))).reS rfl
    show YY _ _ _ _ _ (rf G (ak 0 4) (bE B 2 cur) :: _) _ _ _ _
    refine o_castI (pc := 111) dX12_copy_111 clX12_76 (shp_ak (by decide)) (hWs2.mE 2 hq) ?_
    refine o_astore_n (pc := 114) (lv' := [(3, _), (0, _), (1, _), (2, _)]) dX12_copy_114 rfl (by decide) rfl ?_
    refine o_aload_n (pc := 115) dX12_copy_115 2 rfl ?_
    refine o_gR (pc := 116) (j := 9) (56) ((B2.1 2)) dX12_copy_116 flX12_26 rfl rfl hW3.mW (hW3.r 2) ?_
    refine o_aload_n (pc := 119) dX12_copy_119 0 rfl ?_
    refine o_clone (pc := 120) (tag := 0) (N := 4) dX12_copy_120 cnX12_78.1 cnX12_78.2.1 cnX12_78.2.2 (by decide +kernel) (by decide) rfl (fun _ z => z) rfl (hWs2.mE 2 hq) (fun _ _ => rfl) (Nat.le_of_ble_eq_true rfl) (Nat.le_of_ble_eq_true rfl) (by simp only [rmL]; omega) (by simp only [rmL]; omega) (fun e n9 fe => ?_)
    have F1 : Fr (fun _ => False) _ _ := Fr_cln (k := ak 0 4) (i := bE B 2 cur) (q := e) (n := n9) (Fr.rf hF2.2.2.2.2) ak_ge fe
    have me : (ak 0 4, e) ∈ (cln (hset (hset H 57 it 0 ((cur : Int) + 1)) 57 it 1 (cur : Int)) (ak 0 4) (bE B 2 cur) e n9).1 := List.mem_append_right _ (List.mem_singleton.mpr rfl)
    have fv : ∀ f : Nat, f < 4 → (cln (hset (hset H 57 it 0 ((cur : Int) + 1)) 57 it 1 (cur : Int)) (ak 0 4) (bE B 2 cur) e n9).2.1 (ak 0 4) e (f : Int) = (hset (hset H 57 it 0 ((cur : Int) + 1)) 57 it 1 (cur : Int)).2.1 (ak 0 4) (bE B 2 cur) (f : Int) := fun f _ => congrFun (if_pos ⟨rfl, rfl⟩) _
    have hW4 := hW3.fr0 F1
    refine o_castI (pc := 123) dX12_copy_123 clX12_76 (shp_ak (by decide)) me ?_
    refine o_callV (pc := 126) _ dX12_copy_126 (cl_add (hW4.lc (j := 2) (cur := cur) (by decide) kc_at) F1.2.2.2.2 (by have := hmx; omega) (pk_isE 2) me) lkX12_81 rfl rfl rfl rfl (hW4.l 2).1 ⟨⟨by simp only [rmL]; omega, by simp only [rmL]; omega⟩, by simp only [rmL]; omega, by simp only [rmL]; omega⟩ (Nat.le_of_ble_eq_true rfl) rfl (fun v h2 hq2 => ?_)
    obtain ⟨rfl, c1, b1, hA, FA, hb⟩ := hq2
    refine o_uq (fun hu => ?_)
    have CA := WN.cpAdd (h := h) (N := N) (j := 2) (cur := cur) (l := B.1 2) hW4 hT hF2 F1 hu (by decide) hq (hW.nb 2).2 hA FA hb me fe (fun f hf => (fv f hf).trans (hWs2.e 2 hq f hf)) (hW.l 2).1
    have hI4 := CA.2.2 it (cur + 1) (hI2.fr F1 ((hWs2.l 2).1) (fun z => z) (fun z => z))
    refine o_pop (pc := 129) dX12_copy_129 rfl ?_
    refine o_goto (pc := 130) 96 dX12_copy_130 (by decide) ?_
    exact o_lv [1, 2, 3] rfl (ih CA.2.1 CA.1 hI4 (by omega) (by simp only [rmL]; omega) (by simp only [rmL]; omega))
theorem cp_88 {G : GG} {h : Hp} {a : Nat} {N : Int → Int} {B : Bok} {S T : Nat → Prop} (hW : WN G h a N B S T) (hT : ∀ i, T i → ¬ fre h i) {w : Nat} (hbk : ∀ k : Nat, 0 ≤ (k : Int) → (k : Int) < N 8 → N (270 + 6 * (k : Int) + 5) = 0 ∨ N (270 + 6 * (k : Int) + 5) = 1) {H : Hp} {B2 : Bok} {c0 s0 : Nat} (hF : Fr (fun _ => False) h H) (hW2 : WN G H w (cnt N (kc N 2 0)) B2 (snew h H) T) (hcs : c0 ≤ 608) (hss : s0 ≤ 1435) : YY G MX12_copy (rmL 9 740 14000) 88 [(0, rf G 51 a), (1, rf G 51 w)] [] H c0 s0 (fun v h1 => ∃ B2, v = some (rf G 51 w) ∧ WN G h1 w N B2 (snew h h1) T ∧ Fr (fun _ => False) h h1) := by
  have hWs := hW.fr0 hF
  refine o_aload_n (pc := 88) dX12_copy_88 0 rfl ?_
  refine o_gR (pc := 89) (j := 9) (56) ((B.1 2)) dX12_copy_89 flX12_26 rfl rfl hWs.mW (hWs.r 2) ?_
  refine o_callV (pc := 92) _ dX12_copy_92 (cl_iterator (hWs.l 2) hF.2.2.2.2) lkX12_62 rfl rfl rfl rfl (hWs.l 2).1 ⟨⟨by simp only [rmL]; omega, by simp only [rmL]; omega⟩, by simp only [rmL]; omega, by simp only [rmL]; omega⟩ (Nat.le_of_ble_eq_true rfl) rfl (fun v h2 hq2 => ?_)
  obtain ⟨it, rfl, hf, hI, hF2⟩ := hq2
  have hW3 := (hW2.fr0 hF2).grow hF2 hT
  refine o_astore_n (pc := 95) (lv' := [(2, _), (0, _), (1, _)]) dX12_copy_95 rfl (by decide) rfl ?_
  exact o_lv [1, 2, 0] rfl (lp_cp2 hW hT hbk (Fr_fre hF hf) (nj N 2).toNat (cur := 0) (hF.tr hF2 (fun _ z => z.elim)) hW3 hI (by omega) (by have := (hW.nb 2); change 0 ≤ nj N 2 ∧ nj N 2 ≤ 16 at this; simp only [rmL]; omega) (by have := (hW.nb 2); change 0 ≤ nj N 2 ∧ nj N 2 ≤ 16 at this; simp only [rmL]; omega))
